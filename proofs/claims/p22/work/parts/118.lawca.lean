def kwX0_tellLaw : List Cond := .code yX0_tellLaw cX0_tellLaw 4 none :: kG
theorem hdX0_tellLaw : yX0_tellLaw.cls ≠ "java/lang/invoke/MethodHandle" ∧ yX0_tellLaw.cls ≠ "java/lang/invoke/VarHandle" ∧ (parseMethodDescriptor yX0_tellLaw.desc).map (fun d => d.parameters.length) = some 3 := by decide +kernel
theorem gX0_tellLaw_X0_isLastNeighbour : GoodIn kG (wsV RX0 126 RX0 yX0_isLastNeighbour kwX0_isLastNeighbour) := gK w29_2 (gK w29_3 (gK w29_4 (gK w0_19 (gK w29_5 gGG))))
theorem gX0_tellLaw_X0_lastOf : GoodIn kG (wsV RX0 145 RX0 yX0_lastOf kwX0_lastOf) := gK w29_13 (gK w27_23 (gK w28_0 (gK w0_19 (gK w28_1 gGG))))
theorem gX0_tellLaw_X0_ofMan : GoodIn kG (wsV RX0 71 RX0 yX0_ofMan kwX0_ofMan) := gK w15_0 (gK w15_1 (gK w15_2 (gK w0_19 (gK w15_3 gGG))))
theorem gX0_tellLaw_X0_ofShirt : GoodIn kG (wsV RX0 75 RX0 yX0_ofShirt kwX0_ofShirt) := gK w15_10 (gK w15_11 (gK w15_12 (gK w0_19 (gK w15_13 gGG))))
theorem gX0_tellLaw_X4_tellWhether_n148 : GoodIn kG (kwX4_tellWhether) := gK w29_16 gGG
theorem gX0_tellLaw_X4_tell_n142 : GoodIn kG (kwX4_tell) := gK w29_12 gGG
theorem dX0_tellLaw_0 : decode cX0_tellLaw 0 = .ok (.aload_n 1, 1) := by decide +kernel
theorem dX0_tellLaw_1 : decode cX0_tellLaw 1 = .ok (.sipush 1011, 3) := by decide +kernel
theorem dX0_tellLaw_4 : decode cX0_tellLaw 4 = .ok (.aload_n 0, 1) := by decide +kernel
theorem dX0_tellLaw_5 : decode cX0_tellLaw 5 = .ok (.iload_n 2, 1) := by decide +kernel
theorem dX0_tellLaw_6 : decode cX0_tellLaw 6 = .ok (.iconst 1, 1) := by decide +kernel
theorem dX0_tellLaw_7 : decode cX0_tellLaw 7 = .ok (.invokevirtual 71, 3) := by decide +kernel
theorem dX0_tellLaw_10 : decode cX0_tellLaw 10 = .ok (.invokevirtual 142, 3) := by decide +kernel
theorem dX0_tellLaw_13 : decode cX0_tellLaw 13 = .ok (.aload_n 1, 1) := by decide +kernel
theorem dX0_tellLaw_14 : decode cX0_tellLaw 14 = .ok (.sipush 1036, 3) := by decide +kernel
theorem dX0_tellLaw_17 : decode cX0_tellLaw 17 = .ok (.aload_n 0, 1) := by decide +kernel
theorem dX0_tellLaw_18 : decode cX0_tellLaw 18 = .ok (.iload_n 2, 1) := by decide +kernel
theorem dX0_tellLaw_19 : decode cX0_tellLaw 19 = .ok (.iconst 0, 1) := by decide +kernel
theorem dX0_tellLaw_20 : decode cX0_tellLaw 20 = .ok (.invokevirtual 71, 3) := by decide +kernel
theorem dX0_tellLaw_23 : decode cX0_tellLaw 23 = .ok (.invokevirtual 142, 3) := by decide +kernel
theorem dX0_tellLaw_26 : decode cX0_tellLaw 26 = .ok (.aload_n 1, 1) := by decide +kernel
theorem dX0_tellLaw_27 : decode cX0_tellLaw 27 = .ok (.sipush 1012, 3) := by decide +kernel
theorem dX0_tellLaw_30 : decode cX0_tellLaw 30 = .ok (.aload_n 0, 1) := by decide +kernel
theorem dX0_tellLaw_31 : decode cX0_tellLaw 31 = .ok (.iload_n 2, 1) := by decide +kernel
theorem dX0_tellLaw_32 : decode cX0_tellLaw 32 = .ok (.iconst 2, 1) := by decide +kernel
theorem dX0_tellLaw_33 : decode cX0_tellLaw 33 = .ok (.invokevirtual 71, 3) := by decide +kernel
theorem dX0_tellLaw_36 : decode cX0_tellLaw 36 = .ok (.invokevirtual 142, 3) := by decide +kernel
theorem dX0_tellLaw_39 : decode cX0_tellLaw 39 = .ok (.aload_n 1, 1) := by decide +kernel
theorem dX0_tellLaw_40 : decode cX0_tellLaw 40 = .ok (.sipush 1034, 3) := by decide +kernel
theorem dX0_tellLaw_43 : decode cX0_tellLaw 43 = .ok (.aload_n 0, 1) := by decide +kernel
theorem dX0_tellLaw_44 : decode cX0_tellLaw 44 = .ok (.iload_n 3, 1) := by decide +kernel
theorem dX0_tellLaw_45 : decode cX0_tellLaw 45 = .ok (.iconst 0, 1) := by decide +kernel
theorem dX0_tellLaw_46 : decode cX0_tellLaw 46 = .ok (.invokevirtual 75, 3) := by decide +kernel
theorem dX0_tellLaw_49 : decode cX0_tellLaw 49 = .ok (.invokevirtual 142, 3) := by decide +kernel
theorem dX0_tellLaw_52 : decode cX0_tellLaw 52 = .ok (.aload_n 1, 1) := by decide +kernel
theorem dX0_tellLaw_53 : decode cX0_tellLaw 53 = .ok (.sipush 1015, 3) := by decide +kernel
theorem dX0_tellLaw_56 : decode cX0_tellLaw 56 = .ok (.aload_n 0, 1) := by decide +kernel
theorem dX0_tellLaw_57 : decode cX0_tellLaw 57 = .ok (.iload_n 3, 1) := by decide +kernel
theorem dX0_tellLaw_58 : decode cX0_tellLaw 58 = .ok (.iconst 1, 1) := by decide +kernel
theorem dX0_tellLaw_59 : decode cX0_tellLaw 59 = .ok (.invokevirtual 75, 3) := by decide +kernel
theorem dX0_tellLaw_62 : decode cX0_tellLaw 62 = .ok (.invokevirtual 142, 3) := by decide +kernel
theorem dX0_tellLaw_65 : decode cX0_tellLaw 65 = .ok (.aload_n 1, 1) := by decide +kernel
theorem dX0_tellLaw_66 : decode cX0_tellLaw 66 = .ok (.sipush 1016, 3) := by decide +kernel
theorem dX0_tellLaw_69 : decode cX0_tellLaw 69 = .ok (.aload_n 0, 1) := by decide +kernel
theorem dX0_tellLaw_70 : decode cX0_tellLaw 70 = .ok (.iload_n 3, 1) := by decide +kernel
theorem dX0_tellLaw_71 : decode cX0_tellLaw 71 = .ok (.iconst 2, 1) := by decide +kernel
theorem dX0_tellLaw_72 : decode cX0_tellLaw 72 = .ok (.invokevirtual 75, 3) := by decide +kernel
theorem dX0_tellLaw_75 : decode cX0_tellLaw 75 = .ok (.invokevirtual 142, 3) := by decide +kernel
theorem dX0_tellLaw_78 : decode cX0_tellLaw 78 = .ok (.aload_n 1, 1) := by decide +kernel
theorem dX0_tellLaw_79 : decode cX0_tellLaw 79 = .ok (.sipush 1017, 3) := by decide +kernel
theorem dX0_tellLaw_82 : decode cX0_tellLaw 82 = .ok (.aload_n 0, 1) := by decide +kernel
theorem dX0_tellLaw_83 : decode cX0_tellLaw 83 = .ok (.iload_n 3, 1) := by decide +kernel
theorem dX0_tellLaw_84 : decode cX0_tellLaw 84 = .ok (.iconst 3, 1) := by decide +kernel
theorem dX0_tellLaw_85 : decode cX0_tellLaw 85 = .ok (.invokevirtual 75, 3) := by decide +kernel
theorem dX0_tellLaw_88 : decode cX0_tellLaw 88 = .ok (.invokevirtual 142, 3) := by decide +kernel
theorem dX0_tellLaw_91 : decode cX0_tellLaw 91 = .ok (.aload_n 1, 1) := by decide +kernel
theorem dX0_tellLaw_92 : decode cX0_tellLaw 92 = .ok (.sipush 1035, 3) := by decide +kernel
theorem dX0_tellLaw_95 : decode cX0_tellLaw 95 = .ok (.aload_n 0, 1) := by decide +kernel
theorem dX0_tellLaw_96 : decode cX0_tellLaw 96 = .ok (.iload_n 3, 1) := by decide +kernel
theorem dX0_tellLaw_97 : decode cX0_tellLaw 97 = .ok (.iconst 4, 1) := by decide +kernel
theorem dX0_tellLaw_98 : decode cX0_tellLaw 98 = .ok (.invokevirtual 75, 3) := by decide +kernel
theorem dX0_tellLaw_101 : decode cX0_tellLaw 101 = .ok (.invokevirtual 142, 3) := by decide +kernel
theorem dX0_tellLaw_104 : decode cX0_tellLaw 104 = .ok (.aload_n 1, 1) := by decide +kernel
theorem dX0_tellLaw_105 : decode cX0_tellLaw 105 = .ok (.sipush 1037, 3) := by decide +kernel
theorem dX0_tellLaw_108 : decode cX0_tellLaw 108 = .ok (.aload_n 0, 1) := by decide +kernel
theorem dX0_tellLaw_109 : decode cX0_tellLaw 109 = .ok (.getfield 44, 3) := by decide +kernel
theorem dX0_tellLaw_112 : decode cX0_tellLaw 112 = .ok (.invokevirtual 142, 3) := by decide +kernel
theorem dX0_tellLaw_115 : decode cX0_tellLaw 115 = .ok (.aload_n 1, 1) := by decide +kernel
theorem dX0_tellLaw_116 : decode cX0_tellLaw 116 = .ok (.sipush 1031, 3) := by decide +kernel
theorem dX0_tellLaw_119 : decode cX0_tellLaw 119 = .ok (.aload_n 0, 1) := by decide +kernel
theorem dX0_tellLaw_120 : decode cX0_tellLaw 120 = .ok (.iload_n 3, 1) := by decide +kernel
theorem dX0_tellLaw_121 : decode cX0_tellLaw 121 = .ok (.invokevirtual 145, 3) := by decide +kernel
theorem dX0_tellLaw_124 : decode cX0_tellLaw 124 = .ok (.iload_n 2, 1) := by decide +kernel
theorem dX0_tellLaw_125 : decode cX0_tellLaw 125 = .ok (.if_icmp .ne 7, 3) := by decide +kernel
theorem dX0_tellLaw_128 : decode cX0_tellLaw 128 = .ok (.iconst 1, 1) := by decide +kernel
theorem dX0_tellLaw_129 : decode cX0_tellLaw 129 = .ok (.goto 4, 3) := by decide +kernel
theorem dX0_tellLaw_132 : decode cX0_tellLaw 132 = .ok (.iconst 0, 1) := by decide +kernel
theorem dX0_tellLaw_133 : decode cX0_tellLaw 133 = .ok (.invokevirtual 148, 3) := by decide +kernel
theorem dX0_tellLaw_136 : decode cX0_tellLaw 136 = .ok (.aload_n 1, 1) := by decide +kernel
theorem dX0_tellLaw_137 : decode cX0_tellLaw 137 = .ok (.sipush 1032, 3) := by decide +kernel
theorem dX0_tellLaw_140 : decode cX0_tellLaw 140 = .ok (.aload_n 0, 1) := by decide +kernel
theorem dX0_tellLaw_141 : decode cX0_tellLaw 141 = .ok (.iload_n 2, 1) := by decide +kernel
theorem dX0_tellLaw_142 : decode cX0_tellLaw 142 = .ok (.iload_n 3, 1) := by decide +kernel
theorem dX0_tellLaw_143 : decode cX0_tellLaw 143 = .ok (.invokevirtual 126, 3) := by decide +kernel
theorem dX0_tellLaw_146 : decode cX0_tellLaw 146 = .ok (.invokevirtual 148, 3) := by decide +kernel
theorem dX0_tellLaw_149 : decode cX0_tellLaw 149 = .ok (.aload_n 1, 1) := by decide +kernel
theorem dX0_tellLaw_150 : decode cX0_tellLaw 150 = .ok (.sipush 1033, 3) := by decide +kernel
theorem dX0_tellLaw_153 : decode cX0_tellLaw 153 = .ok (.aload_n 0, 1) := by decide +kernel
theorem dX0_tellLaw_154 : decode cX0_tellLaw 154 = .ok (.iload_n 3, 1) := by decide +kernel
theorem dX0_tellLaw_155 : decode cX0_tellLaw 155 = .ok (.iconst 0, 1) := by decide +kernel
theorem dX0_tellLaw_156 : decode cX0_tellLaw 156 = .ok (.invokevirtual 75, 3) := by decide +kernel
theorem dX0_tellLaw_159 : decode cX0_tellLaw 159 = .ok (.aload_n 0, 1) := by decide +kernel
theorem dX0_tellLaw_160 : decode cX0_tellLaw 160 = .ok (.iload_n 2, 1) := by decide +kernel
theorem dX0_tellLaw_161 : decode cX0_tellLaw 161 = .ok (.iconst 3, 1) := by decide +kernel
theorem dX0_tellLaw_162 : decode cX0_tellLaw 162 = .ok (.invokevirtual 71, 3) := by decide +kernel
theorem dX0_tellLaw_165 : decode cX0_tellLaw 165 = .ok (.if_icmp .ne 7, 3) := by decide +kernel
theorem dX0_tellLaw_168 : decode cX0_tellLaw 168 = .ok (.iconst 1, 1) := by decide +kernel
theorem dX0_tellLaw_169 : decode cX0_tellLaw 169 = .ok (.goto 4, 3) := by decide +kernel
theorem dX0_tellLaw_172 : decode cX0_tellLaw 172 = .ok (.iconst 0, 1) := by decide +kernel
theorem dX0_tellLaw_173 : decode cX0_tellLaw 173 = .ok (.invokevirtual 148, 3) := by decide +kernel
theorem dX0_tellLaw_176 : decode cX0_tellLaw 176 = .ok (.return_, 1) := by decide +kernel
set_option maxHeartbeats 4000000 in
set_option maxRecDepth 100000 in
/-- Camp.tellLaw (s) -/
theorem z_Camp_tellLaw_s (l : Launch) (D : va_G) (cI cJ cB cC : ClassId) (h : Nat) (m1 : Nat) (m2 : Nat) (m3 : Nat) (mc : Int32) (sc : Int32) (tx : Int32) (nr : Int32) (ra : Int32) (ru : Int32) (dy : Int32) (wa : Int32) (se : Int32) (f1 : Nat → Int32) (f2 : Nat → Int32) (f3 : Nat → Int64) (l0 : Nat) (l1 : Nat) (l2 : Nat) (l3 : Nat) (l4 : Nat) (M1 : Nat) (M2 : Nat) (M3 : Nat) (y1_ : Nat → Int32) (y2_ : Nat → Int32) (y3_ : Nat → Int32) (y4_ : Nat → Int32) (a : Int32) (b : Int32) (sz : Nat)  : Met l yX0_tellLaw kwX0_tellLaw ({ frames := 3, cells := 0, slots := 0, locals := 68 } : Room) (kPre D (kT cI cJ cB cC) sz [(h, oX0 m1 m2 m3 mc sc tx nr ra ru dy wa se (some l0)), (m1, kcI cI 50 f1), (m2, kcI cI 72 f2), (m3, kcJ cJ 30 f3), (l0, oX4 l1 l2 l3 l4), (l1, kcI cI M1 y1_), (l2, kcI cI M2 y2_), (l3, kcI cI M3 y3_), (l4, kcI cI 28 y4_)] [.ref h, .ref l0, .int a, .int b]) (va_Qv (fun (f0_ : (Nat → Int32)) => F_z_Camp_tellLaw_s (sc : Int32).toInt (nr : Int32).toInt (wa : Int32).toInt (gT f1) (gT f2) f3 (gT y4_) (a : Int32).toInt (b : Int32).toInt = ((gT f0_))) (fun (f0_ : (Nat → Int32)) (t : State) => kB D (kT cI cJ cB cC) (va_A [(h, oX0 m1 m2 m3 mc sc tx nr ra ru dy wa se (some l0)), (m1, kcI cI 50 f1), (m2, kcI cI 72 f2), (m3, kcJ cJ 30 f3), (l0, oX4 l1 l2 l3 l4), (l1, kcI cI M1 y1_), (l2, kcI cI M2 y2_), (l3, kcI cI M3 y3_), (l4, kcI cI 28 y4_)] sz) [(h, oX0 m1 m2 m3 mc sc tx nr ra ru dy wa se (some l0)), (m1, kcI cI 50 f1), (m2, kcI cI 72 f2), (m3, kcJ cJ 30 f3), (l0, oX4 l1 l2 l3 l4), (l1, kcI cI M1 y1_), (l2, kcI cI M2 y2_), (l3, kcI cI M3 y3_), (l4, kcI cI 28 f0_)] t) (va_A [(h, oX0 m1 m2 m3 mc sc tx nr ra ru dy wa se (some l0)), (m1, kcI cI 50 f1), (m2, kcI cI 72 f2), (m3, kcJ cJ 30 f3), (l0, oX4 l1 l2 l3 l4), (l1, kcI cI M1 y1_), (l2, kcI cI M2 y2_), (l3, kcI cI M3 y3_), (l4, kcI cI 28 y4_)] sz)) 0 0 (va_A [(h, oX0 m1 m2 m3 mc sc tx nr ra ru dy wa se (some l0)), (m1, kcI cI 50 f1), (m2, kcI cI 72 f2), (m3, kcJ cJ 30 f3), (l0, oX4 l1 l2 l3 l4), (l1, kcI cI M1 y1_), (l2, kcI cI M2 y2_), (l3, kcI cI M3 y3_), (l4, kcI cI 28 y4_)] sz) := by
  refine Met.ofW (cc := cX0_tellLaw) (maxL := 4) (ret := none) (by decide) rfl ?_
  intro p e s m args below meth c s₁ B hml hv
  obtain ⟨rfl, hsz, hN, hE, hP, hK, hD0⟩ := hv
  have hx := B.exec
  have hb := B.bytes
  have hr := B.returns
  have hts := fun (w : Cond) (h : w ∈ kG) => atoms_spec (ws := kwX0_tellLaw) B.pre w (List.mem_cons_of_mem _ h)
  have hown : s.vm.findClass RX0 = some m.cls := findClass_of_methodNamed B.named
  subst hsz
  have hD := hD0.self (sz := s.heap.size)
  generalize hAe : va_A [(h, oX0 m1 m2 m3 mc sc tx nr ra ru dy wa se (some l0)), (m1, kcI cI 50 f1), (m2, kcI cI 72 f2), (m3, kcJ cJ 30 f3), (l0, oX4 l1 l2 l3 l4), (l1, kcI cI M1 y1_), (l2, kcI cI M2 y2_), (l3, kcI cI M3 y3_), (l4, kcI cI 28 y4_)] s.heap.size = A at hD hE ⊢
  have hA : ∀ q : Nat, s.heap.size ≤ q → A q := fun q h => by rw [← hAe]; exact Or.inr h
  have hl := lv_entry ([.ref h, .ref l0, .int a, .int b]) (n := 4) (Nat.le_of_ble_eq_true rfl)
  rw [lg_entry_eq]
  generalize (lg_sl ([.ref h, .ref l0, .int a, .int b]) ++ List.replicate (4 - (lg_sl ([.ref h, .ref l0, .int a, .int b])).length) Slot.unset).toArray = ls at hl ⊢
  have hl : lv_has ls 4 [(0, .ref h), (1, .ref l0), (2, .int a), (3, .int b)] := hl
  obtain ⟨H, hH0⟩ : ∃ H, H = s.heap := ⟨_, rfl⟩
  have hS : va_S A s.heap H [] := by rw [hH0]; exact va_S.rf
  have hP : va_P D vwCl [(h, oX0 m1 m2 m3 mc sc tx nr ra ru dy wa se (some l0)), (m1, kcI cI 50 f1), (m2, kcI cI 72 f2), (m3, kcJ cJ 30 f3), (l0, oX4 l1 l2 l3 l4), (l1, kcI cI M1 y1_), (l2, kcI cI M2 y2_), (l3, kcI cI M3 y3_), (l4, kcI cI 28 y4_)] H := by rw [hH0]; exact hP
  refine kHeap hH0 ?_
  clear hH0
  refine lv_aload_n hx hb dX0_tellLaw_0 rfl (lv_at hl 1 rfl) ?_
  refine lv_sipush (v := 1011) hx hb dX0_tellLaw_1 (by decide) ?_
  refine lv_aload_n hx hb dX0_tellLaw_4 rfl (lv_at hl 0 rfl) ?_
  refine lv_iload_n hx hb dX0_tellLaw_5 rfl (lv_at hl 2 rfl) ?_
  refine lv_iconst (v := 1) hx hb dX0_tellLaw_6 (by decide) ?_
  refine kpurei (wc := [(h, oX0 m1 m2 m3 mc sc tx nr ra ru dy wa se (some l0)), (m1, kcI cI 50 f1), (m2, kcI cI 72 f2), (m3, kcJ cJ 30 f3)]) hP hD hS hA [0, 1, 2, 3] rfl (by decide) (fun hPc hDc hFc => va_runV (As := [.int a, .int 1]) (rest := [.int 1011, .ref l0]) ⟨hx, hb, hml, hown, hts⟩ (z_Camp_ofMan l D cI cJ cB cC h m1 m2 m3 mc sc tx nr ra ru dy wa se (some l0) f1 f2 f3 a 1 H.size) (cwV 2 hts gX0_tellLaw_X0_ofMan rfl rfl rfl ⟨rfl, hdX0_ofMan⟩ ⟨Nat.le_of_ble_eq_true rfl, Nat.le_of_ble_eq_true rfl⟩) ⟨kBlind, va_recv hK hPc (ci := 0) (q0 := 0) rfl rfl, fun U hU hW => ⟨rfl, by rw [hU], hN.warm hW, hE.pass hS hFc hW hU, by rw [hU]; exact hPc, va_K.moved hW.alike hK, hDc⟩⟩ rfl rfl hl.1 rfl (lv_room (Nat.le_of_ble_eq_true rfl)) dX0_tellLaw_7 ⟨Nat.le_of_ble_eq_true rfl, Nat.le_of_ble_eq_true rfl⟩) (fun r1 u H locs hw hP hS => ?_)
  have k2 := hw
  refine kcallv (wc := [(l0, oX4 l1 l2 l3 l4), (l1, kcI cI M1 y1_), (l2, kcI cI M2 y2_), (l3, kcI cI M3 y3_), (l4, kcI cI 28 y4_)]) (wr := [(h, oX0 m1 m2 m3 mc sc tx nr ra ru dy wa se (some l0)), (m1, kcI cI 50 f1), (m2, kcI cI 72 f2), (m3, kcJ cJ 30 f3)]) hP hD hS hA [4, 5, 6, 7, 8] [0, 1, 2, 3] rfl rfl (by decide) (by decide) (by decide) (fun hPc hDc hFc => va_runVN (C := RX4) (As := [.int 1011, .int r1]) (rest := []) ⟨hx, hb, hml, hown, hts⟩ (z_Law_tell l D cI cJ cB cC l0 l1 l2 l3 l4 M1 M2 M3 y1_ y2_ y3_ y4_ 1011 r1 H.size) ⟨va_cnB 2 hts gX0_tellLaw_X4_tell_n142 rfl rfl rfl (nM_21 hN) (hts _ w24_8) hdX4_tell ⟨Nat.le_of_ble_eq_true rfl, Nat.le_of_ble_eq_true rfl⟩, hts _ w29_10, hts _ w29_11⟩ ⟨kBlind, va_recv hK hPc (ci := 4) (q0 := 0) rfl rfl, fun U hU hW => ⟨rfl, by rw [hU], hN.warm hW, hE.pass hS hFc hW hU, by rw [hU]; exact hPc, va_K.moved hW.alike hK, hDc⟩⟩ rfl rfl hl.1 rfl (lv_room (Nat.le_of_ble_eq_true rfl)) dX0_tellLaw_10 ⟨Nat.le_of_ble_eq_true rfl, Nat.le_of_ble_eq_true rfl⟩) (fun u H locs hw hP hD hS => ?_)
  obtain ⟨g3, rfl⟩ : ∃ z, z = u := ⟨_, rfl⟩
  have hP : va_P D vwCl [(h, oX0 m1 m2 m3 mc sc tx nr ra ru dy wa se (some l0)), (m1, kcI cI 50 f1), (m2, kcI cI 72 f2), (m3, kcJ cJ 30 f3), (l0, oX4 l1 l2 l3 l4), (l1, kcI cI M1 y1_), (l2, kcI cI M2 y2_), (l3, kcI cI M3 y3_), (l4, kcI cI 28 g3)] H := hP
  have hD : va_D A [(h, oX0 m1 m2 m3 mc sc tx nr ra ru dy wa se (some l0)), (m1, kcI cI 50 f1), (m2, kcI cI 72 f2), (m3, kcJ cJ 30 f3), (l0, oX4 l1 l2 l3 l4), (l1, kcI cI M1 y1_), (l2, kcI cI M2 y2_), (l3, kcI cI M3 y3_), (l4, kcI cI 28 g3)] := hD
  have k4 := hw
  refine lv_aload_n hx hb dX0_tellLaw_13 rfl (lv_at hl 1 rfl) ?_
  refine lv_sipush (v := 1036) hx hb dX0_tellLaw_14 (by decide) ?_
  refine lv_aload_n hx hb dX0_tellLaw_17 rfl (lv_at hl 0 rfl) ?_
  refine lv_iload_n hx hb dX0_tellLaw_18 rfl (lv_at hl 2 rfl) ?_
  refine lv_iconst (v := 0) hx hb dX0_tellLaw_19 (by decide) ?_
  refine kpurei (wc := [(h, oX0 m1 m2 m3 mc sc tx nr ra ru dy wa se (some l0)), (m1, kcI cI 50 f1), (m2, kcI cI 72 f2), (m3, kcJ cJ 30 f3)]) hP hD hS hA [0, 1, 2, 3] rfl (by decide) (fun hPc hDc hFc => va_runV (As := [.int a, .int 0]) (rest := [.int 1036, .ref l0]) ⟨hx, hb, hml, hown, hts⟩ (z_Camp_ofMan l D cI cJ cB cC h m1 m2 m3 mc sc tx nr ra ru dy wa se (some l0) f1 f2 f3 a 0 H.size) (cwV 2 hts gX0_tellLaw_X0_ofMan rfl rfl rfl ⟨rfl, hdX0_ofMan⟩ ⟨Nat.le_of_ble_eq_true rfl, Nat.le_of_ble_eq_true rfl⟩) ⟨kBlind, va_recv hK hPc (ci := 0) (q0 := 0) rfl rfl, fun U hU hW => ⟨rfl, by rw [hU], hN.warm hW, hE.pass hS hFc hW hU, by rw [hU]; exact hPc, va_K.moved hW.alike hK, hDc⟩⟩ rfl rfl hl.1 rfl (lv_room (Nat.le_of_ble_eq_true rfl)) dX0_tellLaw_20 ⟨Nat.le_of_ble_eq_true rfl, Nat.le_of_ble_eq_true rfl⟩) (fun r5 u H locs hw hP hS => ?_)
  have k6 := hw
  refine kcallv (wc := [(l0, oX4 l1 l2 l3 l4), (l1, kcI cI M1 y1_), (l2, kcI cI M2 y2_), (l3, kcI cI M3 y3_), (l4, kcI cI 28 g3)]) (wr := [(h, oX0 m1 m2 m3 mc sc tx nr ra ru dy wa se (some l0)), (m1, kcI cI 50 f1), (m2, kcI cI 72 f2), (m3, kcJ cJ 30 f3)]) hP hD hS hA [4, 5, 6, 7, 8] [0, 1, 2, 3] rfl rfl (by decide) (by decide) (by decide) (fun hPc hDc hFc => va_runVN (C := RX4) (As := [.int 1036, .int r5]) (rest := []) ⟨hx, hb, hml, hown, hts⟩ (z_Law_tell l D cI cJ cB cC l0 l1 l2 l3 l4 M1 M2 M3 y1_ y2_ y3_ g3 1036 r5 H.size) ⟨va_cnB 2 hts gX0_tellLaw_X4_tell_n142 rfl rfl rfl (nM_21 hN) (hts _ w24_8) hdX4_tell ⟨Nat.le_of_ble_eq_true rfl, Nat.le_of_ble_eq_true rfl⟩, hts _ w29_10, hts _ w29_11⟩ ⟨kBlind, va_recv hK hPc (ci := 4) (q0 := 0) rfl rfl, fun U hU hW => ⟨rfl, by rw [hU], hN.warm hW, hE.pass hS hFc hW hU, by rw [hU]; exact hPc, va_K.moved hW.alike hK, hDc⟩⟩ rfl rfl hl.1 rfl (lv_room (Nat.le_of_ble_eq_true rfl)) dX0_tellLaw_23 ⟨Nat.le_of_ble_eq_true rfl, Nat.le_of_ble_eq_true rfl⟩) (fun u H locs hw hP hD hS => ?_)
  obtain ⟨g7, rfl⟩ : ∃ z, z = u := ⟨_, rfl⟩
  have hP : va_P D vwCl [(h, oX0 m1 m2 m3 mc sc tx nr ra ru dy wa se (some l0)), (m1, kcI cI 50 f1), (m2, kcI cI 72 f2), (m3, kcJ cJ 30 f3), (l0, oX4 l1 l2 l3 l4), (l1, kcI cI M1 y1_), (l2, kcI cI M2 y2_), (l3, kcI cI M3 y3_), (l4, kcI cI 28 g7)] H := hP
  have hD : va_D A [(h, oX0 m1 m2 m3 mc sc tx nr ra ru dy wa se (some l0)), (m1, kcI cI 50 f1), (m2, kcI cI 72 f2), (m3, kcJ cJ 30 f3), (l0, oX4 l1 l2 l3 l4), (l1, kcI cI M1 y1_), (l2, kcI cI M2 y2_), (l3, kcI cI M3 y3_), (l4, kcI cI 28 g7)] := hD
  have k8 := hw
  refine lv_aload_n hx hb dX0_tellLaw_26 rfl (lv_at hl 1 rfl) ?_
  refine lv_sipush (v := 1012) hx hb dX0_tellLaw_27 (by decide) ?_
  refine lv_aload_n hx hb dX0_tellLaw_30 rfl (lv_at hl 0 rfl) ?_
  refine lv_iload_n hx hb dX0_tellLaw_31 rfl (lv_at hl 2 rfl) ?_
  refine lv_iconst (v := 2) hx hb dX0_tellLaw_32 (by decide) ?_
  refine kpurei (wc := [(h, oX0 m1 m2 m3 mc sc tx nr ra ru dy wa se (some l0)), (m1, kcI cI 50 f1), (m2, kcI cI 72 f2), (m3, kcJ cJ 30 f3)]) hP hD hS hA [0, 1, 2, 3] rfl (by decide) (fun hPc hDc hFc => va_runV (As := [.int a, .int 2]) (rest := [.int 1012, .ref l0]) ⟨hx, hb, hml, hown, hts⟩ (z_Camp_ofMan l D cI cJ cB cC h m1 m2 m3 mc sc tx nr ra ru dy wa se (some l0) f1 f2 f3 a 2 H.size) (cwV 2 hts gX0_tellLaw_X0_ofMan rfl rfl rfl ⟨rfl, hdX0_ofMan⟩ ⟨Nat.le_of_ble_eq_true rfl, Nat.le_of_ble_eq_true rfl⟩) ⟨kBlind, va_recv hK hPc (ci := 0) (q0 := 0) rfl rfl, fun U hU hW => ⟨rfl, by rw [hU], hN.warm hW, hE.pass hS hFc hW hU, by rw [hU]; exact hPc, va_K.moved hW.alike hK, hDc⟩⟩ rfl rfl hl.1 rfl (lv_room (Nat.le_of_ble_eq_true rfl)) dX0_tellLaw_33 ⟨Nat.le_of_ble_eq_true rfl, Nat.le_of_ble_eq_true rfl⟩) (fun r9 u H locs hw hP hS => ?_)
  have k10 := hw
  refine kcallv (wc := [(l0, oX4 l1 l2 l3 l4), (l1, kcI cI M1 y1_), (l2, kcI cI M2 y2_), (l3, kcI cI M3 y3_), (l4, kcI cI 28 g7)]) (wr := [(h, oX0 m1 m2 m3 mc sc tx nr ra ru dy wa se (some l0)), (m1, kcI cI 50 f1), (m2, kcI cI 72 f2), (m3, kcJ cJ 30 f3)]) hP hD hS hA [4, 5, 6, 7, 8] [0, 1, 2, 3] rfl rfl (by decide) (by decide) (by decide) (fun hPc hDc hFc => va_runVN (C := RX4) (As := [.int 1012, .int r9]) (rest := []) ⟨hx, hb, hml, hown, hts⟩ (z_Law_tell l D cI cJ cB cC l0 l1 l2 l3 l4 M1 M2 M3 y1_ y2_ y3_ g7 1012 r9 H.size) ⟨va_cnB 2 hts gX0_tellLaw_X4_tell_n142 rfl rfl rfl (nM_21 hN) (hts _ w24_8) hdX4_tell ⟨Nat.le_of_ble_eq_true rfl, Nat.le_of_ble_eq_true rfl⟩, hts _ w29_10, hts _ w29_11⟩ ⟨kBlind, va_recv hK hPc (ci := 4) (q0 := 0) rfl rfl, fun U hU hW => ⟨rfl, by rw [hU], hN.warm hW, hE.pass hS hFc hW hU, by rw [hU]; exact hPc, va_K.moved hW.alike hK, hDc⟩⟩ rfl rfl hl.1 rfl (lv_room (Nat.le_of_ble_eq_true rfl)) dX0_tellLaw_36 ⟨Nat.le_of_ble_eq_true rfl, Nat.le_of_ble_eq_true rfl⟩) (fun u H locs hw hP hD hS => ?_)
  obtain ⟨g11, rfl⟩ : ∃ z, z = u := ⟨_, rfl⟩
  have hP : va_P D vwCl [(h, oX0 m1 m2 m3 mc sc tx nr ra ru dy wa se (some l0)), (m1, kcI cI 50 f1), (m2, kcI cI 72 f2), (m3, kcJ cJ 30 f3), (l0, oX4 l1 l2 l3 l4), (l1, kcI cI M1 y1_), (l2, kcI cI M2 y2_), (l3, kcI cI M3 y3_), (l4, kcI cI 28 g11)] H := hP
  have hD : va_D A [(h, oX0 m1 m2 m3 mc sc tx nr ra ru dy wa se (some l0)), (m1, kcI cI 50 f1), (m2, kcI cI 72 f2), (m3, kcJ cJ 30 f3), (l0, oX4 l1 l2 l3 l4), (l1, kcI cI M1 y1_), (l2, kcI cI M2 y2_), (l3, kcI cI M3 y3_), (l4, kcI cI 28 g11)] := hD
  have k12 := hw
  refine lv_aload_n hx hb dX0_tellLaw_39 rfl (lv_at hl 1 rfl) ?_
  refine lv_sipush (v := 1034) hx hb dX0_tellLaw_40 (by decide) ?_
  refine lv_aload_n hx hb dX0_tellLaw_43 rfl (lv_at hl 0 rfl) ?_
  refine lv_iload_n hx hb dX0_tellLaw_44 rfl (lv_at hl 3 rfl) ?_
  refine lv_iconst (v := 0) hx hb dX0_tellLaw_45 (by decide) ?_
  refine kpurei (wc := [(h, oX0 m1 m2 m3 mc sc tx nr ra ru dy wa se (some l0)), (m1, kcI cI 50 f1), (m2, kcI cI 72 f2), (m3, kcJ cJ 30 f3)]) hP hD hS hA [0, 1, 2, 3] rfl (by decide) (fun hPc hDc hFc => va_runV (As := [.int b, .int 0]) (rest := [.int 1034, .ref l0]) ⟨hx, hb, hml, hown, hts⟩ (z_Camp_ofShirt l D cI cJ cB cC h m1 m2 m3 mc sc tx nr ra ru dy wa se (some l0) f1 f2 f3 b 0 H.size) (cwV 2 hts gX0_tellLaw_X0_ofShirt rfl rfl rfl ⟨rfl, hdX0_ofShirt⟩ ⟨Nat.le_of_ble_eq_true rfl, Nat.le_of_ble_eq_true rfl⟩) ⟨kBlind, va_recv hK hPc (ci := 0) (q0 := 0) rfl rfl, fun U hU hW => ⟨rfl, by rw [hU], hN.warm hW, hE.pass hS hFc hW hU, by rw [hU]; exact hPc, va_K.moved hW.alike hK, hDc⟩⟩ rfl rfl hl.1 rfl (lv_room (Nat.le_of_ble_eq_true rfl)) dX0_tellLaw_46 ⟨Nat.le_of_ble_eq_true rfl, Nat.le_of_ble_eq_true rfl⟩) (fun r13 u H locs hw hP hS => ?_)
  have k14 := hw
  refine kcallv (wc := [(l0, oX4 l1 l2 l3 l4), (l1, kcI cI M1 y1_), (l2, kcI cI M2 y2_), (l3, kcI cI M3 y3_), (l4, kcI cI 28 g11)]) (wr := [(h, oX0 m1 m2 m3 mc sc tx nr ra ru dy wa se (some l0)), (m1, kcI cI 50 f1), (m2, kcI cI 72 f2), (m3, kcJ cJ 30 f3)]) hP hD hS hA [4, 5, 6, 7, 8] [0, 1, 2, 3] rfl rfl (by decide) (by decide) (by decide) (fun hPc hDc hFc => va_runVN (C := RX4) (As := [.int 1034, .int r13]) (rest := []) ⟨hx, hb, hml, hown, hts⟩ (z_Law_tell l D cI cJ cB cC l0 l1 l2 l3 l4 M1 M2 M3 y1_ y2_ y3_ g11 1034 r13 H.size) ⟨va_cnB 2 hts gX0_tellLaw_X4_tell_n142 rfl rfl rfl (nM_21 hN) (hts _ w24_8) hdX4_tell ⟨Nat.le_of_ble_eq_true rfl, Nat.le_of_ble_eq_true rfl⟩, hts _ w29_10, hts _ w29_11⟩ ⟨kBlind, va_recv hK hPc (ci := 4) (q0 := 0) rfl rfl, fun U hU hW => ⟨rfl, by rw [hU], hN.warm hW, hE.pass hS hFc hW hU, by rw [hU]; exact hPc, va_K.moved hW.alike hK, hDc⟩⟩ rfl rfl hl.1 rfl (lv_room (Nat.le_of_ble_eq_true rfl)) dX0_tellLaw_49 ⟨Nat.le_of_ble_eq_true rfl, Nat.le_of_ble_eq_true rfl⟩) (fun u H locs hw hP hD hS => ?_)
  obtain ⟨g15, rfl⟩ : ∃ z, z = u := ⟨_, rfl⟩
  have hP : va_P D vwCl [(h, oX0 m1 m2 m3 mc sc tx nr ra ru dy wa se (some l0)), (m1, kcI cI 50 f1), (m2, kcI cI 72 f2), (m3, kcJ cJ 30 f3), (l0, oX4 l1 l2 l3 l4), (l1, kcI cI M1 y1_), (l2, kcI cI M2 y2_), (l3, kcI cI M3 y3_), (l4, kcI cI 28 g15)] H := hP
  have hD : va_D A [(h, oX0 m1 m2 m3 mc sc tx nr ra ru dy wa se (some l0)), (m1, kcI cI 50 f1), (m2, kcI cI 72 f2), (m3, kcJ cJ 30 f3), (l0, oX4 l1 l2 l3 l4), (l1, kcI cI M1 y1_), (l2, kcI cI M2 y2_), (l3, kcI cI M3 y3_), (l4, kcI cI 28 g15)] := hD
  have k16 := hw
  refine lv_aload_n hx hb dX0_tellLaw_52 rfl (lv_at hl 1 rfl) ?_
  refine lv_sipush (v := 1015) hx hb dX0_tellLaw_53 (by decide) ?_
  refine lv_aload_n hx hb dX0_tellLaw_56 rfl (lv_at hl 0 rfl) ?_
  refine lv_iload_n hx hb dX0_tellLaw_57 rfl (lv_at hl 3 rfl) ?_
  refine lv_iconst (v := 1) hx hb dX0_tellLaw_58 (by decide) ?_
  refine kpurei (wc := [(h, oX0 m1 m2 m3 mc sc tx nr ra ru dy wa se (some l0)), (m1, kcI cI 50 f1), (m2, kcI cI 72 f2), (m3, kcJ cJ 30 f3)]) hP hD hS hA [0, 1, 2, 3] rfl (by decide) (fun hPc hDc hFc => va_runV (As := [.int b, .int 1]) (rest := [.int 1015, .ref l0]) ⟨hx, hb, hml, hown, hts⟩ (z_Camp_ofShirt l D cI cJ cB cC h m1 m2 m3 mc sc tx nr ra ru dy wa se (some l0) f1 f2 f3 b 1 H.size) (cwV 2 hts gX0_tellLaw_X0_ofShirt rfl rfl rfl ⟨rfl, hdX0_ofShirt⟩ ⟨Nat.le_of_ble_eq_true rfl, Nat.le_of_ble_eq_true rfl⟩) ⟨kBlind, va_recv hK hPc (ci := 0) (q0 := 0) rfl rfl, fun U hU hW => ⟨rfl, by rw [hU], hN.warm hW, hE.pass hS hFc hW hU, by rw [hU]; exact hPc, va_K.moved hW.alike hK, hDc⟩⟩ rfl rfl hl.1 rfl (lv_room (Nat.le_of_ble_eq_true rfl)) dX0_tellLaw_59 ⟨Nat.le_of_ble_eq_true rfl, Nat.le_of_ble_eq_true rfl⟩) (fun r17 u H locs hw hP hS => ?_)
  have k18 := hw
  refine kcallv (wc := [(l0, oX4 l1 l2 l3 l4), (l1, kcI cI M1 y1_), (l2, kcI cI M2 y2_), (l3, kcI cI M3 y3_), (l4, kcI cI 28 g15)]) (wr := [(h, oX0 m1 m2 m3 mc sc tx nr ra ru dy wa se (some l0)), (m1, kcI cI 50 f1), (m2, kcI cI 72 f2), (m3, kcJ cJ 30 f3)]) hP hD hS hA [4, 5, 6, 7, 8] [0, 1, 2, 3] rfl rfl (by decide) (by decide) (by decide) (fun hPc hDc hFc => va_runVN (C := RX4) (As := [.int 1015, .int r17]) (rest := []) ⟨hx, hb, hml, hown, hts⟩ (z_Law_tell l D cI cJ cB cC l0 l1 l2 l3 l4 M1 M2 M3 y1_ y2_ y3_ g15 1015 r17 H.size) ⟨va_cnB 2 hts gX0_tellLaw_X4_tell_n142 rfl rfl rfl (nM_21 hN) (hts _ w24_8) hdX4_tell ⟨Nat.le_of_ble_eq_true rfl, Nat.le_of_ble_eq_true rfl⟩, hts _ w29_10, hts _ w29_11⟩ ⟨kBlind, va_recv hK hPc (ci := 4) (q0 := 0) rfl rfl, fun U hU hW => ⟨rfl, by rw [hU], hN.warm hW, hE.pass hS hFc hW hU, by rw [hU]; exact hPc, va_K.moved hW.alike hK, hDc⟩⟩ rfl rfl hl.1 rfl (lv_room (Nat.le_of_ble_eq_true rfl)) dX0_tellLaw_62 ⟨Nat.le_of_ble_eq_true rfl, Nat.le_of_ble_eq_true rfl⟩) (fun u H locs hw hP hD hS => ?_)
  obtain ⟨g19, rfl⟩ : ∃ z, z = u := ⟨_, rfl⟩
  have hP : va_P D vwCl [(h, oX0 m1 m2 m3 mc sc tx nr ra ru dy wa se (some l0)), (m1, kcI cI 50 f1), (m2, kcI cI 72 f2), (m3, kcJ cJ 30 f3), (l0, oX4 l1 l2 l3 l4), (l1, kcI cI M1 y1_), (l2, kcI cI M2 y2_), (l3, kcI cI M3 y3_), (l4, kcI cI 28 g19)] H := hP
  have hD : va_D A [(h, oX0 m1 m2 m3 mc sc tx nr ra ru dy wa se (some l0)), (m1, kcI cI 50 f1), (m2, kcI cI 72 f2), (m3, kcJ cJ 30 f3), (l0, oX4 l1 l2 l3 l4), (l1, kcI cI M1 y1_), (l2, kcI cI M2 y2_), (l3, kcI cI M3 y3_), (l4, kcI cI 28 g19)] := hD
  have k20 := hw
  refine lv_aload_n hx hb dX0_tellLaw_65 rfl (lv_at hl 1 rfl) ?_
  refine lv_sipush (v := 1016) hx hb dX0_tellLaw_66 (by decide) ?_
  refine lv_aload_n hx hb dX0_tellLaw_69 rfl (lv_at hl 0 rfl) ?_
  refine lv_iload_n hx hb dX0_tellLaw_70 rfl (lv_at hl 3 rfl) ?_
  refine lv_iconst (v := 2) hx hb dX0_tellLaw_71 (by decide) ?_
  refine kpurei (wc := [(h, oX0 m1 m2 m3 mc sc tx nr ra ru dy wa se (some l0)), (m1, kcI cI 50 f1), (m2, kcI cI 72 f2), (m3, kcJ cJ 30 f3)]) hP hD hS hA [0, 1, 2, 3] rfl (by decide) (fun hPc hDc hFc => va_runV (As := [.int b, .int 2]) (rest := [.int 1016, .ref l0]) ⟨hx, hb, hml, hown, hts⟩ (z_Camp_ofShirt l D cI cJ cB cC h m1 m2 m3 mc sc tx nr ra ru dy wa se (some l0) f1 f2 f3 b 2 H.size) (cwV 2 hts gX0_tellLaw_X0_ofShirt rfl rfl rfl ⟨rfl, hdX0_ofShirt⟩ ⟨Nat.le_of_ble_eq_true rfl, Nat.le_of_ble_eq_true rfl⟩) ⟨kBlind, va_recv hK hPc (ci := 0) (q0 := 0) rfl rfl, fun U hU hW => ⟨rfl, by rw [hU], hN.warm hW, hE.pass hS hFc hW hU, by rw [hU]; exact hPc, va_K.moved hW.alike hK, hDc⟩⟩ rfl rfl hl.1 rfl (lv_room (Nat.le_of_ble_eq_true rfl)) dX0_tellLaw_72 ⟨Nat.le_of_ble_eq_true rfl, Nat.le_of_ble_eq_true rfl⟩) (fun r21 u H locs hw hP hS => ?_)
  have k22 := hw
  refine kcallv (wc := [(l0, oX4 l1 l2 l3 l4), (l1, kcI cI M1 y1_), (l2, kcI cI M2 y2_), (l3, kcI cI M3 y3_), (l4, kcI cI 28 g19)]) (wr := [(h, oX0 m1 m2 m3 mc sc tx nr ra ru dy wa se (some l0)), (m1, kcI cI 50 f1), (m2, kcI cI 72 f2), (m3, kcJ cJ 30 f3)]) hP hD hS hA [4, 5, 6, 7, 8] [0, 1, 2, 3] rfl rfl (by decide) (by decide) (by decide) (fun hPc hDc hFc => va_runVN (C := RX4) (As := [.int 1016, .int r21]) (rest := []) ⟨hx, hb, hml, hown, hts⟩ (z_Law_tell l D cI cJ cB cC l0 l1 l2 l3 l4 M1 M2 M3 y1_ y2_ y3_ g19 1016 r21 H.size) ⟨va_cnB 2 hts gX0_tellLaw_X4_tell_n142 rfl rfl rfl (nM_21 hN) (hts _ w24_8) hdX4_tell ⟨Nat.le_of_ble_eq_true rfl, Nat.le_of_ble_eq_true rfl⟩, hts _ w29_10, hts _ w29_11⟩ ⟨kBlind, va_recv hK hPc (ci := 4) (q0 := 0) rfl rfl, fun U hU hW => ⟨rfl, by rw [hU], hN.warm hW, hE.pass hS hFc hW hU, by rw [hU]; exact hPc, va_K.moved hW.alike hK, hDc⟩⟩ rfl rfl hl.1 rfl (lv_room (Nat.le_of_ble_eq_true rfl)) dX0_tellLaw_75 ⟨Nat.le_of_ble_eq_true rfl, Nat.le_of_ble_eq_true rfl⟩) (fun u H locs hw hP hD hS => ?_)
  obtain ⟨g23, rfl⟩ : ∃ z, z = u := ⟨_, rfl⟩
  have hP : va_P D vwCl [(h, oX0 m1 m2 m3 mc sc tx nr ra ru dy wa se (some l0)), (m1, kcI cI 50 f1), (m2, kcI cI 72 f2), (m3, kcJ cJ 30 f3), (l0, oX4 l1 l2 l3 l4), (l1, kcI cI M1 y1_), (l2, kcI cI M2 y2_), (l3, kcI cI M3 y3_), (l4, kcI cI 28 g23)] H := hP
  have hD : va_D A [(h, oX0 m1 m2 m3 mc sc tx nr ra ru dy wa se (some l0)), (m1, kcI cI 50 f1), (m2, kcI cI 72 f2), (m3, kcJ cJ 30 f3), (l0, oX4 l1 l2 l3 l4), (l1, kcI cI M1 y1_), (l2, kcI cI M2 y2_), (l3, kcI cI M3 y3_), (l4, kcI cI 28 g23)] := hD
  have k24 := hw
  refine lv_aload_n hx hb dX0_tellLaw_78 rfl (lv_at hl 1 rfl) ?_
  refine lv_sipush (v := 1017) hx hb dX0_tellLaw_79 (by decide) ?_
  refine lv_aload_n hx hb dX0_tellLaw_82 rfl (lv_at hl 0 rfl) ?_
  refine lv_iload_n hx hb dX0_tellLaw_83 rfl (lv_at hl 3 rfl) ?_
  refine lv_iconst (v := 3) hx hb dX0_tellLaw_84 (by decide) ?_
  refine kpurei (wc := [(h, oX0 m1 m2 m3 mc sc tx nr ra ru dy wa se (some l0)), (m1, kcI cI 50 f1), (m2, kcI cI 72 f2), (m3, kcJ cJ 30 f3)]) hP hD hS hA [0, 1, 2, 3] rfl (by decide) (fun hPc hDc hFc => va_runV (As := [.int b, .int 3]) (rest := [.int 1017, .ref l0]) ⟨hx, hb, hml, hown, hts⟩ (z_Camp_ofShirt l D cI cJ cB cC h m1 m2 m3 mc sc tx nr ra ru dy wa se (some l0) f1 f2 f3 b 3 H.size) (cwV 2 hts gX0_tellLaw_X0_ofShirt rfl rfl rfl ⟨rfl, hdX0_ofShirt⟩ ⟨Nat.le_of_ble_eq_true rfl, Nat.le_of_ble_eq_true rfl⟩) ⟨kBlind, va_recv hK hPc (ci := 0) (q0 := 0) rfl rfl, fun U hU hW => ⟨rfl, by rw [hU], hN.warm hW, hE.pass hS hFc hW hU, by rw [hU]; exact hPc, va_K.moved hW.alike hK, hDc⟩⟩ rfl rfl hl.1 rfl (lv_room (Nat.le_of_ble_eq_true rfl)) dX0_tellLaw_85 ⟨Nat.le_of_ble_eq_true rfl, Nat.le_of_ble_eq_true rfl⟩) (fun r25 u H locs hw hP hS => ?_)
  have k26 := hw
  refine kcallv (wc := [(l0, oX4 l1 l2 l3 l4), (l1, kcI cI M1 y1_), (l2, kcI cI M2 y2_), (l3, kcI cI M3 y3_), (l4, kcI cI 28 g23)]) (wr := [(h, oX0 m1 m2 m3 mc sc tx nr ra ru dy wa se (some l0)), (m1, kcI cI 50 f1), (m2, kcI cI 72 f2), (m3, kcJ cJ 30 f3)]) hP hD hS hA [4, 5, 6, 7, 8] [0, 1, 2, 3] rfl rfl (by decide) (by decide) (by decide) (fun hPc hDc hFc => va_runVN (C := RX4) (As := [.int 1017, .int r25]) (rest := []) ⟨hx, hb, hml, hown, hts⟩ (z_Law_tell l D cI cJ cB cC l0 l1 l2 l3 l4 M1 M2 M3 y1_ y2_ y3_ g23 1017 r25 H.size) ⟨va_cnB 2 hts gX0_tellLaw_X4_tell_n142 rfl rfl rfl (nM_21 hN) (hts _ w24_8) hdX4_tell ⟨Nat.le_of_ble_eq_true rfl, Nat.le_of_ble_eq_true rfl⟩, hts _ w29_10, hts _ w29_11⟩ ⟨kBlind, va_recv hK hPc (ci := 4) (q0 := 0) rfl rfl, fun U hU hW => ⟨rfl, by rw [hU], hN.warm hW, hE.pass hS hFc hW hU, by rw [hU]; exact hPc, va_K.moved hW.alike hK, hDc⟩⟩ rfl rfl hl.1 rfl (lv_room (Nat.le_of_ble_eq_true rfl)) dX0_tellLaw_88 ⟨Nat.le_of_ble_eq_true rfl, Nat.le_of_ble_eq_true rfl⟩) (fun u H locs hw hP hD hS => ?_)
  obtain ⟨g27, rfl⟩ : ∃ z, z = u := ⟨_, rfl⟩
  have hP : va_P D vwCl [(h, oX0 m1 m2 m3 mc sc tx nr ra ru dy wa se (some l0)), (m1, kcI cI 50 f1), (m2, kcI cI 72 f2), (m3, kcJ cJ 30 f3), (l0, oX4 l1 l2 l3 l4), (l1, kcI cI M1 y1_), (l2, kcI cI M2 y2_), (l3, kcI cI M3 y3_), (l4, kcI cI 28 g27)] H := hP
  have hD : va_D A [(h, oX0 m1 m2 m3 mc sc tx nr ra ru dy wa se (some l0)), (m1, kcI cI 50 f1), (m2, kcI cI 72 f2), (m3, kcJ cJ 30 f3), (l0, oX4 l1 l2 l3 l4), (l1, kcI cI M1 y1_), (l2, kcI cI M2 y2_), (l3, kcI cI M3 y3_), (l4, kcI cI 28 g27)] := hD
  have k28 := hw
  refine lv_aload_n hx hb dX0_tellLaw_91 rfl (lv_at hl 1 rfl) ?_
  refine lv_sipush (v := 1035) hx hb dX0_tellLaw_92 (by decide) ?_
  refine lv_aload_n hx hb dX0_tellLaw_95 rfl (lv_at hl 0 rfl) ?_
  refine lv_iload_n hx hb dX0_tellLaw_96 rfl (lv_at hl 3 rfl) ?_
  refine lv_iconst (v := 4) hx hb dX0_tellLaw_97 (by decide) ?_
  refine kpurei (wc := [(h, oX0 m1 m2 m3 mc sc tx nr ra ru dy wa se (some l0)), (m1, kcI cI 50 f1), (m2, kcI cI 72 f2), (m3, kcJ cJ 30 f3)]) hP hD hS hA [0, 1, 2, 3] rfl (by decide) (fun hPc hDc hFc => va_runV (As := [.int b, .int 4]) (rest := [.int 1035, .ref l0]) ⟨hx, hb, hml, hown, hts⟩ (z_Camp_ofShirt l D cI cJ cB cC h m1 m2 m3 mc sc tx nr ra ru dy wa se (some l0) f1 f2 f3 b 4 H.size) (cwV 2 hts gX0_tellLaw_X0_ofShirt rfl rfl rfl ⟨rfl, hdX0_ofShirt⟩ ⟨Nat.le_of_ble_eq_true rfl, Nat.le_of_ble_eq_true rfl⟩) ⟨kBlind, va_recv hK hPc (ci := 0) (q0 := 0) rfl rfl, fun U hU hW => ⟨rfl, by rw [hU], hN.warm hW, hE.pass hS hFc hW hU, by rw [hU]; exact hPc, va_K.moved hW.alike hK, hDc⟩⟩ rfl rfl hl.1 rfl (lv_room (Nat.le_of_ble_eq_true rfl)) dX0_tellLaw_98 ⟨Nat.le_of_ble_eq_true rfl, Nat.le_of_ble_eq_true rfl⟩) (fun r29 u H locs hw hP hS => ?_)
  have k30 := hw
  refine kcallv (wc := [(l0, oX4 l1 l2 l3 l4), (l1, kcI cI M1 y1_), (l2, kcI cI M2 y2_), (l3, kcI cI M3 y3_), (l4, kcI cI 28 g27)]) (wr := [(h, oX0 m1 m2 m3 mc sc tx nr ra ru dy wa se (some l0)), (m1, kcI cI 50 f1), (m2, kcI cI 72 f2), (m3, kcJ cJ 30 f3)]) hP hD hS hA [4, 5, 6, 7, 8] [0, 1, 2, 3] rfl rfl (by decide) (by decide) (by decide) (fun hPc hDc hFc => va_runVN (C := RX4) (As := [.int 1035, .int r29]) (rest := []) ⟨hx, hb, hml, hown, hts⟩ (z_Law_tell l D cI cJ cB cC l0 l1 l2 l3 l4 M1 M2 M3 y1_ y2_ y3_ g27 1035 r29 H.size) ⟨va_cnB 2 hts gX0_tellLaw_X4_tell_n142 rfl rfl rfl (nM_21 hN) (hts _ w24_8) hdX4_tell ⟨Nat.le_of_ble_eq_true rfl, Nat.le_of_ble_eq_true rfl⟩, hts _ w29_10, hts _ w29_11⟩ ⟨kBlind, va_recv hK hPc (ci := 4) (q0 := 0) rfl rfl, fun U hU hW => ⟨rfl, by rw [hU], hN.warm hW, hE.pass hS hFc hW hU, by rw [hU]; exact hPc, va_K.moved hW.alike hK, hDc⟩⟩ rfl rfl hl.1 rfl (lv_room (Nat.le_of_ble_eq_true rfl)) dX0_tellLaw_101 ⟨Nat.le_of_ble_eq_true rfl, Nat.le_of_ble_eq_true rfl⟩) (fun u H locs hw hP hD hS => ?_)
  obtain ⟨g31, rfl⟩ : ∃ z, z = u := ⟨_, rfl⟩
  have hP : va_P D vwCl [(h, oX0 m1 m2 m3 mc sc tx nr ra ru dy wa se (some l0)), (m1, kcI cI 50 f1), (m2, kcI cI 72 f2), (m3, kcJ cJ 30 f3), (l0, oX4 l1 l2 l3 l4), (l1, kcI cI M1 y1_), (l2, kcI cI M2 y2_), (l3, kcI cI M3 y3_), (l4, kcI cI 28 g31)] H := hP
  have hD : va_D A [(h, oX0 m1 m2 m3 mc sc tx nr ra ru dy wa se (some l0)), (m1, kcI cI 50 f1), (m2, kcI cI 72 f2), (m3, kcJ cJ 30 f3), (l0, oX4 l1 l2 l3 l4), (l1, kcI cI M1 y1_), (l2, kcI cI M2 y2_), (l3, kcI cI M3 y3_), (l4, kcI cI 28 g31)] := hD
  have k32 := hw
  refine lv_aload_n hx hb dX0_tellLaw_104 rfl (lv_at hl 1 rfl) ?_
  refine lv_sipush (v := 1037) hx hb dX0_tellLaw_105 (by decide) ?_
  refine lv_aload_n hx hb dX0_tellLaw_108 rfl (lv_at hl 0 rfl) ?_
  refine va_get (D := D) (ci := 0) (v := .int wa) (C := RX0) (T := TX0) (N := 13) hx hb hts iG_X0 hown hK hP 0 rfl rfl 10 (by decide) (hts _ w2_12) (fun _ h9 => h9) rfl dX0_tellLaw_109 ?_
  refine kcallv (wc := [(l0, oX4 l1 l2 l3 l4), (l1, kcI cI M1 y1_), (l2, kcI cI M2 y2_), (l3, kcI cI M3 y3_), (l4, kcI cI 28 g31)]) (wr := [(h, oX0 m1 m2 m3 mc sc tx nr ra ru dy wa se (some l0)), (m1, kcI cI 50 f1), (m2, kcI cI 72 f2), (m3, kcJ cJ 30 f3)]) hP hD hS hA [4, 5, 6, 7, 8] [0, 1, 2, 3] rfl rfl (by decide) (by decide) (by decide) (fun hPc hDc hFc => va_runVN (C := RX4) (As := [.int 1037, .int wa]) (rest := []) ⟨hx, hb, hml, hown, hts⟩ (z_Law_tell l D cI cJ cB cC l0 l1 l2 l3 l4 M1 M2 M3 y1_ y2_ y3_ g31 1037 wa H.size) ⟨va_cnB 2 hts gX0_tellLaw_X4_tell_n142 rfl rfl rfl (nM_21 hN) (hts _ w24_8) hdX4_tell ⟨Nat.le_of_ble_eq_true rfl, Nat.le_of_ble_eq_true rfl⟩, hts _ w29_10, hts _ w29_11⟩ ⟨kBlind, va_recv hK hPc (ci := 4) (q0 := 0) rfl rfl, fun U hU hW => ⟨rfl, by rw [hU], hN.warm hW, hE.pass hS hFc hW hU, by rw [hU]; exact hPc, va_K.moved hW.alike hK, hDc⟩⟩ rfl rfl hl.1 rfl (lv_room (Nat.le_of_ble_eq_true rfl)) dX0_tellLaw_112 ⟨Nat.le_of_ble_eq_true rfl, Nat.le_of_ble_eq_true rfl⟩) (fun u H locs hw hP hD hS => ?_)
  obtain ⟨g33, rfl⟩ : ∃ z, z = u := ⟨_, rfl⟩
  have hP : va_P D vwCl [(h, oX0 m1 m2 m3 mc sc tx nr ra ru dy wa se (some l0)), (m1, kcI cI 50 f1), (m2, kcI cI 72 f2), (m3, kcJ cJ 30 f3), (l0, oX4 l1 l2 l3 l4), (l1, kcI cI M1 y1_), (l2, kcI cI M2 y2_), (l3, kcI cI M3 y3_), (l4, kcI cI 28 g33)] H := hP
  have hD : va_D A [(h, oX0 m1 m2 m3 mc sc tx nr ra ru dy wa se (some l0)), (m1, kcI cI 50 f1), (m2, kcI cI 72 f2), (m3, kcJ cJ 30 f3), (l0, oX4 l1 l2 l3 l4), (l1, kcI cI M1 y1_), (l2, kcI cI M2 y2_), (l3, kcI cI M3 y3_), (l4, kcI cI 28 g33)] := hD
  have k34 := hw
  refine lv_aload_n hx hb dX0_tellLaw_115 rfl (lv_at hl 1 rfl) ?_
  refine lv_sipush (v := 1031) hx hb dX0_tellLaw_116 (by decide) ?_
  refine lv_aload_n hx hb dX0_tellLaw_119 rfl (lv_at hl 0 rfl) ?_
  refine lv_iload_n hx hb dX0_tellLaw_120 rfl (lv_at hl 3 rfl) ?_
  refine kpurei (wc := [(h, oX0 m1 m2 m3 mc sc tx nr ra ru dy wa se (some l0)), (m1, kcI cI 50 f1), (m2, kcI cI 72 f2), (m3, kcJ cJ 30 f3)]) hP hD hS hA [0, 1, 2, 3] rfl (by decide) (fun hPc hDc hFc => va_runV (As := [.int b]) (rest := [.int 1031, .ref l0]) ⟨hx, hb, hml, hown, hts⟩ (z_Camp_lastOf l D cI cJ cB cC h m1 m2 m3 mc sc tx nr ra ru dy wa se (some l0) f1 f2 f3 b H.size) (cwV 1 hts gX0_tellLaw_X0_lastOf rfl rfl rfl ⟨rfl, hdX0_lastOf⟩ ⟨Nat.le_of_ble_eq_true rfl, Nat.le_of_ble_eq_true rfl⟩) ⟨kBlind, va_recv hK hPc (ci := 0) (q0 := 0) rfl rfl, fun U hU hW => ⟨rfl, by rw [hU], hN.warm hW, hE.pass hS hFc hW hU, by rw [hU]; exact hPc, va_K.moved hW.alike hK, hDc⟩⟩ rfl rfl hl.1 rfl (lv_room (Nat.le_of_ble_eq_true rfl)) dX0_tellLaw_121 ⟨Nat.le_of_ble_eq_true rfl, Nat.le_of_ble_eq_true rfl⟩) (fun r35 u H locs hw hP hS => ?_)
  have k36 := hw
  refine lv_iload_n hx hb dX0_tellLaw_124 rfl (lv_at hl 2 rfl) ?_
  refine lv_icmp_ne (tgt := 132) hx hb dX0_tellLaw_125 (by decide) (fun c38 => ?_) (fun c38 => ?_)
  · skip
    refine lv_iconst (v := 0) hx hb dX0_tellLaw_132 (by decide) ?_
    refine kcallv (wc := [(l0, oX4 l1 l2 l3 l4), (l1, kcI cI M1 y1_), (l2, kcI cI M2 y2_), (l3, kcI cI M3 y3_), (l4, kcI cI 28 g33)]) (wr := [(h, oX0 m1 m2 m3 mc sc tx nr ra ru dy wa se (some l0)), (m1, kcI cI 50 f1), (m2, kcI cI 72 f2), (m3, kcJ cJ 30 f3)]) hP hD hS hA [4, 5, 6, 7, 8] [0, 1, 2, 3] rfl rfl (by decide) (by decide) (by decide) (fun hPc hDc hFc => va_runVN (C := RX4) (As := [.int 1031, .int 0]) (rest := []) ⟨hx, hb, hml, hown, hts⟩ (z_Law_tellWhether l D cI cJ cB cC l0 l1 l2 l3 l4 M1 M2 M3 y1_ y2_ y3_ g33 1031 0 H.size (rg_w (rg_lit (n := 0) (by decide)) (by decide))) ⟨va_cnB 2 hts gX0_tellLaw_X4_tellWhether_n148 rfl rfl rfl (nM_22 hN) (hts _ w24_8) hdX4_tellWhether ⟨Nat.le_of_ble_eq_true rfl, Nat.le_of_ble_eq_true rfl⟩, hts _ w29_14, hts _ w29_15⟩ ⟨kBlind, va_recv hK hPc (ci := 4) (q0 := 0) rfl rfl, fun U hU hW => ⟨rfl, by rw [hU], hN.warm hW, hE.pass hS hFc hW hU, by rw [hU]; exact hPc, va_K.moved hW.alike hK, hDc⟩⟩ rfl rfl hl.1 rfl (lv_room (Nat.le_of_ble_eq_true rfl)) dX0_tellLaw_133 ⟨Nat.le_of_ble_eq_true rfl, Nat.le_of_ble_eq_true rfl⟩) (fun u H locs hw hP hD hS => ?_)
    obtain ⟨g39, rfl⟩ : ∃ z, z = u := ⟨_, rfl⟩
    have hP : va_P D vwCl [(h, oX0 m1 m2 m3 mc sc tx nr ra ru dy wa se (some l0)), (m1, kcI cI 50 f1), (m2, kcI cI 72 f2), (m3, kcJ cJ 30 f3), (l0, oX4 l1 l2 l3 l4), (l1, kcI cI M1 y1_), (l2, kcI cI M2 y2_), (l3, kcI cI M3 y3_), (l4, kcI cI 28 g39)] H := hP
    have hD : va_D A [(h, oX0 m1 m2 m3 mc sc tx nr ra ru dy wa se (some l0)), (m1, kcI cI 50 f1), (m2, kcI cI 72 f2), (m3, kcJ cJ 30 f3), (l0, oX4 l1 l2 l3 l4), (l1, kcI cI M1 y1_), (l2, kcI cI M2 y2_), (l3, kcI cI M3 y3_), (l4, kcI cI 28 g39)] := hD
    have k40 := hw
    refine lv_aload_n hx hb dX0_tellLaw_136 rfl (lv_at hl 1 rfl) ?_
    refine lv_sipush (v := 1032) hx hb dX0_tellLaw_137 (by decide) ?_
    refine lv_aload_n hx hb dX0_tellLaw_140 rfl (lv_at hl 0 rfl) ?_
    refine lv_iload_n hx hb dX0_tellLaw_141 rfl (lv_at hl 2 rfl) ?_
    refine lv_iload_n hx hb dX0_tellLaw_142 rfl (lv_at hl 3 rfl) ?_
    refine kpurei (wc := [(h, oX0 m1 m2 m3 mc sc tx nr ra ru dy wa se (some l0)), (m1, kcI cI 50 f1), (m2, kcI cI 72 f2), (m3, kcJ cJ 30 f3)]) hP hD hS hA [0, 1, 2, 3] rfl (by decide) (fun hPc hDc hFc => va_runV (As := [.int a, .int b]) (rest := [.int 1032, .ref l0]) ⟨hx, hb, hml, hown, hts⟩ (z_Camp_isLastNeighbour l D cI cJ cB cC h m1 m2 m3 mc sc tx nr ra ru dy wa se (some l0) f1 f2 f3 a b H.size) (cwV 2 hts gX0_tellLaw_X0_isLastNeighbour rfl rfl rfl ⟨rfl, hdX0_isLastNeighbour⟩ ⟨Nat.le_of_ble_eq_true rfl, Nat.le_of_ble_eq_true rfl⟩) ⟨kBlind, va_recv hK hPc (ci := 0) (q0 := 0) rfl rfl, fun U hU hW => ⟨rfl, by rw [hU], hN.warm hW, hE.pass hS hFc hW hU, by rw [hU]; exact hPc, va_K.moved hW.alike hK, hDc⟩⟩ rfl rfl hl.1 rfl (lv_room (Nat.le_of_ble_eq_true rfl)) dX0_tellLaw_143 ⟨Nat.le_of_ble_eq_true rfl, Nat.le_of_ble_eq_true rfl⟩) (fun r41 u H locs hw hP hS => ?_)
    obtain ⟨k42, hw⟩ := hw
    rcases hw with rfl | rfl
    · skip
      refine kcallv (wc := [(l0, oX4 l1 l2 l3 l4), (l1, kcI cI M1 y1_), (l2, kcI cI M2 y2_), (l3, kcI cI M3 y3_), (l4, kcI cI 28 g39)]) (wr := [(h, oX0 m1 m2 m3 mc sc tx nr ra ru dy wa se (some l0)), (m1, kcI cI 50 f1), (m2, kcI cI 72 f2), (m3, kcJ cJ 30 f3)]) hP hD hS hA [4, 5, 6, 7, 8] [0, 1, 2, 3] rfl rfl (by decide) (by decide) (by decide) (fun hPc hDc hFc => va_runVN (C := RX4) (As := [.int 1032, .int 0]) (rest := []) ⟨hx, hb, hml, hown, hts⟩ (z_Law_tellWhether l D cI cJ cB cC l0 l1 l2 l3 l4 M1 M2 M3 y1_ y2_ y3_ g39 1032 0 H.size (rg_w (rg_lit (n := 0) (by decide)) (by decide))) ⟨va_cnB 2 hts gX0_tellLaw_X4_tellWhether_n148 rfl rfl rfl (nM_22 hN) (hts _ w24_8) hdX4_tellWhether ⟨Nat.le_of_ble_eq_true rfl, Nat.le_of_ble_eq_true rfl⟩, hts _ w29_14, hts _ w29_15⟩ ⟨kBlind, va_recv hK hPc (ci := 4) (q0 := 0) rfl rfl, fun U hU hW => ⟨rfl, by rw [hU], hN.warm hW, hE.pass hS hFc hW hU, by rw [hU]; exact hPc, va_K.moved hW.alike hK, hDc⟩⟩ rfl rfl hl.1 rfl (lv_room (Nat.le_of_ble_eq_true rfl)) dX0_tellLaw_146 ⟨Nat.le_of_ble_eq_true rfl, Nat.le_of_ble_eq_true rfl⟩) (fun u H locs hw hP hD hS => ?_)
      obtain ⟨g44, rfl⟩ : ∃ z, z = u := ⟨_, rfl⟩
      have hP : va_P D vwCl [(h, oX0 m1 m2 m3 mc sc tx nr ra ru dy wa se (some l0)), (m1, kcI cI 50 f1), (m2, kcI cI 72 f2), (m3, kcJ cJ 30 f3), (l0, oX4 l1 l2 l3 l4), (l1, kcI cI M1 y1_), (l2, kcI cI M2 y2_), (l3, kcI cI M3 y3_), (l4, kcI cI 28 g44)] H := hP
      have hD : va_D A [(h, oX0 m1 m2 m3 mc sc tx nr ra ru dy wa se (some l0)), (m1, kcI cI 50 f1), (m2, kcI cI 72 f2), (m3, kcJ cJ 30 f3), (l0, oX4 l1 l2 l3 l4), (l1, kcI cI M1 y1_), (l2, kcI cI M2 y2_), (l3, kcI cI M3 y3_), (l4, kcI cI 28 g44)] := hD
      have k45 := hw
      refine lv_aload_n hx hb dX0_tellLaw_149 rfl (lv_at hl 1 rfl) ?_
      refine lv_sipush (v := 1033) hx hb dX0_tellLaw_150 (by decide) ?_
      refine lv_aload_n hx hb dX0_tellLaw_153 rfl (lv_at hl 0 rfl) ?_
      refine lv_iload_n hx hb dX0_tellLaw_154 rfl (lv_at hl 3 rfl) ?_
      refine lv_iconst (v := 0) hx hb dX0_tellLaw_155 (by decide) ?_
      refine kpurei (wc := [(h, oX0 m1 m2 m3 mc sc tx nr ra ru dy wa se (some l0)), (m1, kcI cI 50 f1), (m2, kcI cI 72 f2), (m3, kcJ cJ 30 f3)]) hP hD hS hA [0, 1, 2, 3] rfl (by decide) (fun hPc hDc hFc => va_runV (As := [.int b, .int 0]) (rest := [.int 1033, .ref l0]) ⟨hx, hb, hml, hown, hts⟩ (z_Camp_ofShirt l D cI cJ cB cC h m1 m2 m3 mc sc tx nr ra ru dy wa se (some l0) f1 f2 f3 b 0 H.size) (cwV 2 hts gX0_tellLaw_X0_ofShirt rfl rfl rfl ⟨rfl, hdX0_ofShirt⟩ ⟨Nat.le_of_ble_eq_true rfl, Nat.le_of_ble_eq_true rfl⟩) ⟨kBlind, va_recv hK hPc (ci := 0) (q0 := 0) rfl rfl, fun U hU hW => ⟨rfl, by rw [hU], hN.warm hW, hE.pass hS hFc hW hU, by rw [hU]; exact hPc, va_K.moved hW.alike hK, hDc⟩⟩ rfl rfl hl.1 rfl (lv_room (Nat.le_of_ble_eq_true rfl)) dX0_tellLaw_156 ⟨Nat.le_of_ble_eq_true rfl, Nat.le_of_ble_eq_true rfl⟩) (fun r46 u H locs hw hP hS => ?_)
      have k47 := hw
      refine lv_aload_n hx hb dX0_tellLaw_159 rfl (lv_at hl 0 rfl) ?_
      refine lv_iload_n hx hb dX0_tellLaw_160 rfl (lv_at hl 2 rfl) ?_
      refine lv_iconst (v := 3) hx hb dX0_tellLaw_161 (by decide) ?_
      refine kpurei (wc := [(h, oX0 m1 m2 m3 mc sc tx nr ra ru dy wa se (some l0)), (m1, kcI cI 50 f1), (m2, kcI cI 72 f2), (m3, kcJ cJ 30 f3)]) hP hD hS hA [0, 1, 2, 3] rfl (by decide) (fun hPc hDc hFc => va_runV (As := [.int a, .int 3]) (rest := [.int r46, .int 1033, .ref l0]) ⟨hx, hb, hml, hown, hts⟩ (z_Camp_ofMan l D cI cJ cB cC h m1 m2 m3 mc sc tx nr ra ru dy wa se (some l0) f1 f2 f3 a 3 H.size) (cwV 2 hts gX0_tellLaw_X0_ofMan rfl rfl rfl ⟨rfl, hdX0_ofMan⟩ ⟨Nat.le_of_ble_eq_true rfl, Nat.le_of_ble_eq_true rfl⟩) ⟨kBlind, va_recv hK hPc (ci := 0) (q0 := 0) rfl rfl, fun U hU hW => ⟨rfl, by rw [hU], hN.warm hW, hE.pass hS hFc hW hU, by rw [hU]; exact hPc, va_K.moved hW.alike hK, hDc⟩⟩ rfl rfl hl.1 rfl (lv_room (Nat.le_of_ble_eq_true rfl)) dX0_tellLaw_162 ⟨Nat.le_of_ble_eq_true rfl, Nat.le_of_ble_eq_true rfl⟩) (fun r48 u H locs hw hP hS => ?_)
      have k49 := hw
      refine lv_icmp_ne (tgt := 172) hx hb dX0_tellLaw_165 (by decide) (fun c51 => ?_) (fun c51 => ?_)
      · skip
        refine lv_iconst (v := 0) hx hb dX0_tellLaw_172 (by decide) ?_
        refine kcallv (wc := [(l0, oX4 l1 l2 l3 l4), (l1, kcI cI M1 y1_), (l2, kcI cI M2 y2_), (l3, kcI cI M3 y3_), (l4, kcI cI 28 g44)]) (wr := [(h, oX0 m1 m2 m3 mc sc tx nr ra ru dy wa se (some l0)), (m1, kcI cI 50 f1), (m2, kcI cI 72 f2), (m3, kcJ cJ 30 f3)]) hP hD hS hA [4, 5, 6, 7, 8] [0, 1, 2, 3] rfl rfl (by decide) (by decide) (by decide) (fun hPc hDc hFc => va_runVN (C := RX4) (As := [.int 1033, .int 0]) (rest := []) ⟨hx, hb, hml, hown, hts⟩ (z_Law_tellWhether l D cI cJ cB cC l0 l1 l2 l3 l4 M1 M2 M3 y1_ y2_ y3_ g44 1033 0 H.size (rg_w (rg_lit (n := 0) (by decide)) (by decide))) ⟨va_cnB 2 hts gX0_tellLaw_X4_tellWhether_n148 rfl rfl rfl (nM_22 hN) (hts _ w24_8) hdX4_tellWhether ⟨Nat.le_of_ble_eq_true rfl, Nat.le_of_ble_eq_true rfl⟩, hts _ w29_14, hts _ w29_15⟩ ⟨kBlind, va_recv hK hPc (ci := 4) (q0 := 0) rfl rfl, fun U hU hW => ⟨rfl, by rw [hU], hN.warm hW, hE.pass hS hFc hW hU, by rw [hU]; exact hPc, va_K.moved hW.alike hK, hDc⟩⟩ rfl rfl hl.1 rfl (lv_room (Nat.le_of_ble_eq_true rfl)) dX0_tellLaw_173 ⟨Nat.le_of_ble_eq_true rfl, Nat.le_of_ble_eq_true rfl⟩) (fun u H locs hw hP hD hS => ?_)
        obtain ⟨g52, rfl⟩ : ∃ z, z = u := ⟨_, rfl⟩
        have hP : va_P D vwCl [(h, oX0 m1 m2 m3 mc sc tx nr ra ru dy wa se (some l0)), (m1, kcI cI 50 f1), (m2, kcI cI 72 f2), (m3, kcJ cJ 30 f3), (l0, oX4 l1 l2 l3 l4), (l1, kcI cI M1 y1_), (l2, kcI cI M2 y2_), (l3, kcI cI M3 y3_), (l4, kcI cI 28 g52)] H := hP
        have hD : va_D A [(h, oX0 m1 m2 m3 mc sc tx nr ra ru dy wa se (some l0)), (m1, kcI cI 50 f1), (m2, kcI cI 72 f2), (m3, kcJ cJ 30 f3), (l0, oX4 l1 l2 l3 l4), (l1, kcI cI M1 y1_), (l2, kcI cI M2 y2_), (l3, kcI cI M3 y3_), (l4, kcI cI 28 g52)] := hD
        have k53 := hw
        have hP9 := hP.sub (ws' := [(h, oX0 m1 m2 m3 mc sc tx nr ra ru dy wa se (some l0)), (m1, kcI cI 50 f1), (m2, kcI cI 72 f2), (m3, kcJ cJ 30 f3), (l0, oX4 l1 l2 l3 l4), (l1, kcI cI M1 y1_), (l2, kcI cI M2 y2_), (l3, kcI cI M3 y3_), (l4, kcI cI 28 g52)]) [0, 1, 2, 3, 4, 5, 6, 7, 8] rfl
        have hD9 := hD.sub (ws' := [(h, oX0 m1 m2 m3 mc sc tx nr ra ru dy wa se (some l0)), (m1, kcI cI 50 f1), (m2, kcI cI 72 f2), (m3, kcJ cJ 30 f3), (l0, oX4 l1 l2 l3 l4), (l1, kcI cI M1 y1_), (l2, kcI cI M2 y2_), (l3, kcI cI M3 y3_), (l4, kcI cI 28 g52)]) [0, 1, 2, 3, 4, 5, 6, 7, 8] (by decide) rfl
        exact W.vret hx hb hr (fun t ht hW => ⟨⟨(g52), rfl, (kLet_eq (k2).symm (kLet_eq (k4).symm (kLet_eq (k6).symm (kLet_eq (k8).symm (kLet_eq (k10).symm (kLet_eq (k12).symm (kLet_eq (k14).symm (kLet_eq (k16).symm (kLet_eq (k18).symm (kLet_eq (k20).symm (kLet_eq (k22).symm (kLet_eq (k24).symm (kLet_eq (k26).symm (kLet_eq (k28).symm (kLet_eq (k30).symm (kLet_eq (k32).symm (kLet_eq (k34).symm (kLet_eq (k36).symm (kif_f (neI c38) (kLet_eq (k40).symm (kLet_eq (k42).symm (kif_t rfl (kLet_eq (k45).symm (kLet_eq (k47).symm (kLet_eq (k49).symm (kif_f (neI c51) (kLet_eq (k53).symm rfl))))))))))))))))))))))))))), by rw [ht]; exact hP9, va_K.moved hW.alike hK, hD9⟩, hS.F ht⟩) hS.2.2 dX0_tellLaw_176
      · skip
        refine lv_iconst (v := 1) hx hb dX0_tellLaw_168 (by decide) ?_
        refine lv_goto (tgt := 173) hx hb dX0_tellLaw_169 (by decide) ?_
        refine kcallv (wc := [(l0, oX4 l1 l2 l3 l4), (l1, kcI cI M1 y1_), (l2, kcI cI M2 y2_), (l3, kcI cI M3 y3_), (l4, kcI cI 28 g44)]) (wr := [(h, oX0 m1 m2 m3 mc sc tx nr ra ru dy wa se (some l0)), (m1, kcI cI 50 f1), (m2, kcI cI 72 f2), (m3, kcJ cJ 30 f3)]) hP hD hS hA [4, 5, 6, 7, 8] [0, 1, 2, 3] rfl rfl (by decide) (by decide) (by decide) (fun hPc hDc hFc => va_runVN (C := RX4) (As := [.int 1033, .int 1]) (rest := []) ⟨hx, hb, hml, hown, hts⟩ (z_Law_tellWhether l D cI cJ cB cC l0 l1 l2 l3 l4 M1 M2 M3 y1_ y2_ y3_ g44 1033 1 H.size (rg_w (rg_lit (n := 1) (by decide)) (by decide))) ⟨va_cnB 2 hts gX0_tellLaw_X4_tellWhether_n148 rfl rfl rfl (nM_22 hN) (hts _ w24_8) hdX4_tellWhether ⟨Nat.le_of_ble_eq_true rfl, Nat.le_of_ble_eq_true rfl⟩, hts _ w29_14, hts _ w29_15⟩ ⟨kBlind, va_recv hK hPc (ci := 4) (q0 := 0) rfl rfl, fun U hU hW => ⟨rfl, by rw [hU], hN.warm hW, hE.pass hS hFc hW hU, by rw [hU]; exact hPc, va_K.moved hW.alike hK, hDc⟩⟩ rfl rfl hl.1 rfl (lv_room (Nat.le_of_ble_eq_true rfl)) dX0_tellLaw_173 ⟨Nat.le_of_ble_eq_true rfl, Nat.le_of_ble_eq_true rfl⟩) (fun u H locs hw hP hD hS => ?_)
        obtain ⟨g54, rfl⟩ : ∃ z, z = u := ⟨_, rfl⟩
        have hP : va_P D vwCl [(h, oX0 m1 m2 m3 mc sc tx nr ra ru dy wa se (some l0)), (m1, kcI cI 50 f1), (m2, kcI cI 72 f2), (m3, kcJ cJ 30 f3), (l0, oX4 l1 l2 l3 l4), (l1, kcI cI M1 y1_), (l2, kcI cI M2 y2_), (l3, kcI cI M3 y3_), (l4, kcI cI 28 g54)] H := hP
        have hD : va_D A [(h, oX0 m1 m2 m3 mc sc tx nr ra ru dy wa se (some l0)), (m1, kcI cI 50 f1), (m2, kcI cI 72 f2), (m3, kcJ cJ 30 f3), (l0, oX4 l1 l2 l3 l4), (l1, kcI cI M1 y1_), (l2, kcI cI M2 y2_), (l3, kcI cI M3 y3_), (l4, kcI cI 28 g54)] := hD
        have k55 := hw
        have hP9 := hP.sub (ws' := [(h, oX0 m1 m2 m3 mc sc tx nr ra ru dy wa se (some l0)), (m1, kcI cI 50 f1), (m2, kcI cI 72 f2), (m3, kcJ cJ 30 f3), (l0, oX4 l1 l2 l3 l4), (l1, kcI cI M1 y1_), (l2, kcI cI M2 y2_), (l3, kcI cI M3 y3_), (l4, kcI cI 28 g54)]) [0, 1, 2, 3, 4, 5, 6, 7, 8] rfl
        have hD9 := hD.sub (ws' := [(h, oX0 m1 m2 m3 mc sc tx nr ra ru dy wa se (some l0)), (m1, kcI cI 50 f1), (m2, kcI cI 72 f2), (m3, kcJ cJ 30 f3), (l0, oX4 l1 l2 l3 l4), (l1, kcI cI M1 y1_), (l2, kcI cI M2 y2_), (l3, kcI cI M3 y3_), (l4, kcI cI 28 g54)]) [0, 1, 2, 3, 4, 5, 6, 7, 8] (by decide) rfl
        exact W.vret hx hb hr (fun t ht hW => ⟨⟨(g54), rfl, (kLet_eq (k2).symm (kLet_eq (k4).symm (kLet_eq (k6).symm (kLet_eq (k8).symm (kLet_eq (k10).symm (kLet_eq (k12).symm (kLet_eq (k14).symm (kLet_eq (k16).symm (kLet_eq (k18).symm (kLet_eq (k20).symm (kLet_eq (k22).symm (kLet_eq (k24).symm (kLet_eq (k26).symm (kLet_eq (k28).symm (kLet_eq (k30).symm (kLet_eq (k32).symm (kLet_eq (k34).symm (kLet_eq (k36).symm (kif_f (neI c38) (kLet_eq (k40).symm (kLet_eq (k42).symm (kif_t rfl (kLet_eq (k45).symm (kLet_eq (k47).symm (kLet_eq (k49).symm (kif_t (eqI c51) (kLet_eq (k55).symm rfl))))))))))))))))))))))))))), by rw [ht]; exact hP9, va_K.moved hW.alike hK, hD9⟩, hS.F ht⟩) hS.2.2 dX0_tellLaw_176
    · skip
      refine kcallv (wc := [(l0, oX4 l1 l2 l3 l4), (l1, kcI cI M1 y1_), (l2, kcI cI M2 y2_), (l3, kcI cI M3 y3_), (l4, kcI cI 28 g39)]) (wr := [(h, oX0 m1 m2 m3 mc sc tx nr ra ru dy wa se (some l0)), (m1, kcI cI 50 f1), (m2, kcI cI 72 f2), (m3, kcJ cJ 30 f3)]) hP hD hS hA [4, 5, 6, 7, 8] [0, 1, 2, 3] rfl rfl (by decide) (by decide) (by decide) (fun hPc hDc hFc => va_runVN (C := RX4) (As := [.int 1032, .int 1]) (rest := []) ⟨hx, hb, hml, hown, hts⟩ (z_Law_tellWhether l D cI cJ cB cC l0 l1 l2 l3 l4 M1 M2 M3 y1_ y2_ y3_ g39 1032 1 H.size (rg_w (rg_lit (n := 1) (by decide)) (by decide))) ⟨va_cnB 2 hts gX0_tellLaw_X4_tellWhether_n148 rfl rfl rfl (nM_22 hN) (hts _ w24_8) hdX4_tellWhether ⟨Nat.le_of_ble_eq_true rfl, Nat.le_of_ble_eq_true rfl⟩, hts _ w29_14, hts _ w29_15⟩ ⟨kBlind, va_recv hK hPc (ci := 4) (q0 := 0) rfl rfl, fun U hU hW => ⟨rfl, by rw [hU], hN.warm hW, hE.pass hS hFc hW hU, by rw [hU]; exact hPc, va_K.moved hW.alike hK, hDc⟩⟩ rfl rfl hl.1 rfl (lv_room (Nat.le_of_ble_eq_true rfl)) dX0_tellLaw_146 ⟨Nat.le_of_ble_eq_true rfl, Nat.le_of_ble_eq_true rfl⟩) (fun u H locs hw hP hD hS => ?_)
      obtain ⟨g56, rfl⟩ : ∃ z, z = u := ⟨_, rfl⟩
      have hP : va_P D vwCl [(h, oX0 m1 m2 m3 mc sc tx nr ra ru dy wa se (some l0)), (m1, kcI cI 50 f1), (m2, kcI cI 72 f2), (m3, kcJ cJ 30 f3), (l0, oX4 l1 l2 l3 l4), (l1, kcI cI M1 y1_), (l2, kcI cI M2 y2_), (l3, kcI cI M3 y3_), (l4, kcI cI 28 g56)] H := hP
      have hD : va_D A [(h, oX0 m1 m2 m3 mc sc tx nr ra ru dy wa se (some l0)), (m1, kcI cI 50 f1), (m2, kcI cI 72 f2), (m3, kcJ cJ 30 f3), (l0, oX4 l1 l2 l3 l4), (l1, kcI cI M1 y1_), (l2, kcI cI M2 y2_), (l3, kcI cI M3 y3_), (l4, kcI cI 28 g56)] := hD
      have k57 := hw
      refine lv_aload_n hx hb dX0_tellLaw_149 rfl (lv_at hl 1 rfl) ?_
      refine lv_sipush (v := 1033) hx hb dX0_tellLaw_150 (by decide) ?_
      refine lv_aload_n hx hb dX0_tellLaw_153 rfl (lv_at hl 0 rfl) ?_
      refine lv_iload_n hx hb dX0_tellLaw_154 rfl (lv_at hl 3 rfl) ?_
      refine lv_iconst (v := 0) hx hb dX0_tellLaw_155 (by decide) ?_
      refine kpurei (wc := [(h, oX0 m1 m2 m3 mc sc tx nr ra ru dy wa se (some l0)), (m1, kcI cI 50 f1), (m2, kcI cI 72 f2), (m3, kcJ cJ 30 f3)]) hP hD hS hA [0, 1, 2, 3] rfl (by decide) (fun hPc hDc hFc => va_runV (As := [.int b, .int 0]) (rest := [.int 1033, .ref l0]) ⟨hx, hb, hml, hown, hts⟩ (z_Camp_ofShirt l D cI cJ cB cC h m1 m2 m3 mc sc tx nr ra ru dy wa se (some l0) f1 f2 f3 b 0 H.size) (cwV 2 hts gX0_tellLaw_X0_ofShirt rfl rfl rfl ⟨rfl, hdX0_ofShirt⟩ ⟨Nat.le_of_ble_eq_true rfl, Nat.le_of_ble_eq_true rfl⟩) ⟨kBlind, va_recv hK hPc (ci := 0) (q0 := 0) rfl rfl, fun U hU hW => ⟨rfl, by rw [hU], hN.warm hW, hE.pass hS hFc hW hU, by rw [hU]; exact hPc, va_K.moved hW.alike hK, hDc⟩⟩ rfl rfl hl.1 rfl (lv_room (Nat.le_of_ble_eq_true rfl)) dX0_tellLaw_156 ⟨Nat.le_of_ble_eq_true rfl, Nat.le_of_ble_eq_true rfl⟩) (fun r58 u H locs hw hP hS => ?_)
      have k59 := hw
      refine lv_aload_n hx hb dX0_tellLaw_159 rfl (lv_at hl 0 rfl) ?_
      refine lv_iload_n hx hb dX0_tellLaw_160 rfl (lv_at hl 2 rfl) ?_
      refine lv_iconst (v := 3) hx hb dX0_tellLaw_161 (by decide) ?_
      refine kpurei (wc := [(h, oX0 m1 m2 m3 mc sc tx nr ra ru dy wa se (some l0)), (m1, kcI cI 50 f1), (m2, kcI cI 72 f2), (m3, kcJ cJ 30 f3)]) hP hD hS hA [0, 1, 2, 3] rfl (by decide) (fun hPc hDc hFc => va_runV (As := [.int a, .int 3]) (rest := [.int r58, .int 1033, .ref l0]) ⟨hx, hb, hml, hown, hts⟩ (z_Camp_ofMan l D cI cJ cB cC h m1 m2 m3 mc sc tx nr ra ru dy wa se (some l0) f1 f2 f3 a 3 H.size) (cwV 2 hts gX0_tellLaw_X0_ofMan rfl rfl rfl ⟨rfl, hdX0_ofMan⟩ ⟨Nat.le_of_ble_eq_true rfl, Nat.le_of_ble_eq_true rfl⟩) ⟨kBlind, va_recv hK hPc (ci := 0) (q0 := 0) rfl rfl, fun U hU hW => ⟨rfl, by rw [hU], hN.warm hW, hE.pass hS hFc hW hU, by rw [hU]; exact hPc, va_K.moved hW.alike hK, hDc⟩⟩ rfl rfl hl.1 rfl (lv_room (Nat.le_of_ble_eq_true rfl)) dX0_tellLaw_162 ⟨Nat.le_of_ble_eq_true rfl, Nat.le_of_ble_eq_true rfl⟩) (fun r60 u H locs hw hP hS => ?_)
      have k61 := hw
      refine lv_icmp_ne (tgt := 172) hx hb dX0_tellLaw_165 (by decide) (fun c63 => ?_) (fun c63 => ?_)
      · skip
        refine lv_iconst (v := 0) hx hb dX0_tellLaw_172 (by decide) ?_
        refine kcallv (wc := [(l0, oX4 l1 l2 l3 l4), (l1, kcI cI M1 y1_), (l2, kcI cI M2 y2_), (l3, kcI cI M3 y3_), (l4, kcI cI 28 g56)]) (wr := [(h, oX0 m1 m2 m3 mc sc tx nr ra ru dy wa se (some l0)), (m1, kcI cI 50 f1), (m2, kcI cI 72 f2), (m3, kcJ cJ 30 f3)]) hP hD hS hA [4, 5, 6, 7, 8] [0, 1, 2, 3] rfl rfl (by decide) (by decide) (by decide) (fun hPc hDc hFc => va_runVN (C := RX4) (As := [.int 1033, .int 0]) (rest := []) ⟨hx, hb, hml, hown, hts⟩ (z_Law_tellWhether l D cI cJ cB cC l0 l1 l2 l3 l4 M1 M2 M3 y1_ y2_ y3_ g56 1033 0 H.size (rg_w (rg_lit (n := 0) (by decide)) (by decide))) ⟨va_cnB 2 hts gX0_tellLaw_X4_tellWhether_n148 rfl rfl rfl (nM_22 hN) (hts _ w24_8) hdX4_tellWhether ⟨Nat.le_of_ble_eq_true rfl, Nat.le_of_ble_eq_true rfl⟩, hts _ w29_14, hts _ w29_15⟩ ⟨kBlind, va_recv hK hPc (ci := 4) (q0 := 0) rfl rfl, fun U hU hW => ⟨rfl, by rw [hU], hN.warm hW, hE.pass hS hFc hW hU, by rw [hU]; exact hPc, va_K.moved hW.alike hK, hDc⟩⟩ rfl rfl hl.1 rfl (lv_room (Nat.le_of_ble_eq_true rfl)) dX0_tellLaw_173 ⟨Nat.le_of_ble_eq_true rfl, Nat.le_of_ble_eq_true rfl⟩) (fun u H locs hw hP hD hS => ?_)
        obtain ⟨g64, rfl⟩ : ∃ z, z = u := ⟨_, rfl⟩
        have hP : va_P D vwCl [(h, oX0 m1 m2 m3 mc sc tx nr ra ru dy wa se (some l0)), (m1, kcI cI 50 f1), (m2, kcI cI 72 f2), (m3, kcJ cJ 30 f3), (l0, oX4 l1 l2 l3 l4), (l1, kcI cI M1 y1_), (l2, kcI cI M2 y2_), (l3, kcI cI M3 y3_), (l4, kcI cI 28 g64)] H := hP
        have hD : va_D A [(h, oX0 m1 m2 m3 mc sc tx nr ra ru dy wa se (some l0)), (m1, kcI cI 50 f1), (m2, kcI cI 72 f2), (m3, kcJ cJ 30 f3), (l0, oX4 l1 l2 l3 l4), (l1, kcI cI M1 y1_), (l2, kcI cI M2 y2_), (l3, kcI cI M3 y3_), (l4, kcI cI 28 g64)] := hD
        have k65 := hw
        have hP9 := hP.sub (ws' := [(h, oX0 m1 m2 m3 mc sc tx nr ra ru dy wa se (some l0)), (m1, kcI cI 50 f1), (m2, kcI cI 72 f2), (m3, kcJ cJ 30 f3), (l0, oX4 l1 l2 l3 l4), (l1, kcI cI M1 y1_), (l2, kcI cI M2 y2_), (l3, kcI cI M3 y3_), (l4, kcI cI 28 g64)]) [0, 1, 2, 3, 4, 5, 6, 7, 8] rfl
        have hD9 := hD.sub (ws' := [(h, oX0 m1 m2 m3 mc sc tx nr ra ru dy wa se (some l0)), (m1, kcI cI 50 f1), (m2, kcI cI 72 f2), (m3, kcJ cJ 30 f3), (l0, oX4 l1 l2 l3 l4), (l1, kcI cI M1 y1_), (l2, kcI cI M2 y2_), (l3, kcI cI M3 y3_), (l4, kcI cI 28 g64)]) [0, 1, 2, 3, 4, 5, 6, 7, 8] (by decide) rfl
        exact W.vret hx hb hr (fun t ht hW => ⟨⟨(g64), rfl, (kLet_eq (k2).symm (kLet_eq (k4).symm (kLet_eq (k6).symm (kLet_eq (k8).symm (kLet_eq (k10).symm (kLet_eq (k12).symm (kLet_eq (k14).symm (kLet_eq (k16).symm (kLet_eq (k18).symm (kLet_eq (k20).symm (kLet_eq (k22).symm (kLet_eq (k24).symm (kLet_eq (k26).symm (kLet_eq (k28).symm (kLet_eq (k30).symm (kLet_eq (k32).symm (kLet_eq (k34).symm (kLet_eq (k36).symm (kif_f (neI c38) (kLet_eq (k40).symm (kLet_eq (k42).symm (kif_f (by decide) (kLet_eq (k57).symm (kLet_eq (k59).symm (kLet_eq (k61).symm (kif_f (neI c63) (kLet_eq (k65).symm rfl))))))))))))))))))))))))))), by rw [ht]; exact hP9, va_K.moved hW.alike hK, hD9⟩, hS.F ht⟩) hS.2.2 dX0_tellLaw_176
      · skip
        refine lv_iconst (v := 1) hx hb dX0_tellLaw_168 (by decide) ?_
        refine lv_goto (tgt := 173) hx hb dX0_tellLaw_169 (by decide) ?_
        refine kcallv (wc := [(l0, oX4 l1 l2 l3 l4), (l1, kcI cI M1 y1_), (l2, kcI cI M2 y2_), (l3, kcI cI M3 y3_), (l4, kcI cI 28 g56)]) (wr := [(h, oX0 m1 m2 m3 mc sc tx nr ra ru dy wa se (some l0)), (m1, kcI cI 50 f1), (m2, kcI cI 72 f2), (m3, kcJ cJ 30 f3)]) hP hD hS hA [4, 5, 6, 7, 8] [0, 1, 2, 3] rfl rfl (by decide) (by decide) (by decide) (fun hPc hDc hFc => va_runVN (C := RX4) (As := [.int 1033, .int 1]) (rest := []) ⟨hx, hb, hml, hown, hts⟩ (z_Law_tellWhether l D cI cJ cB cC l0 l1 l2 l3 l4 M1 M2 M3 y1_ y2_ y3_ g56 1033 1 H.size (rg_w (rg_lit (n := 1) (by decide)) (by decide))) ⟨va_cnB 2 hts gX0_tellLaw_X4_tellWhether_n148 rfl rfl rfl (nM_22 hN) (hts _ w24_8) hdX4_tellWhether ⟨Nat.le_of_ble_eq_true rfl, Nat.le_of_ble_eq_true rfl⟩, hts _ w29_14, hts _ w29_15⟩ ⟨kBlind, va_recv hK hPc (ci := 4) (q0 := 0) rfl rfl, fun U hU hW => ⟨rfl, by rw [hU], hN.warm hW, hE.pass hS hFc hW hU, by rw [hU]; exact hPc, va_K.moved hW.alike hK, hDc⟩⟩ rfl rfl hl.1 rfl (lv_room (Nat.le_of_ble_eq_true rfl)) dX0_tellLaw_173 ⟨Nat.le_of_ble_eq_true rfl, Nat.le_of_ble_eq_true rfl⟩) (fun u H locs hw hP hD hS => ?_)
        obtain ⟨g66, rfl⟩ : ∃ z, z = u := ⟨_, rfl⟩
        have hP : va_P D vwCl [(h, oX0 m1 m2 m3 mc sc tx nr ra ru dy wa se (some l0)), (m1, kcI cI 50 f1), (m2, kcI cI 72 f2), (m3, kcJ cJ 30 f3), (l0, oX4 l1 l2 l3 l4), (l1, kcI cI M1 y1_), (l2, kcI cI M2 y2_), (l3, kcI cI M3 y3_), (l4, kcI cI 28 g66)] H := hP
        have hD : va_D A [(h, oX0 m1 m2 m3 mc sc tx nr ra ru dy wa se (some l0)), (m1, kcI cI 50 f1), (m2, kcI cI 72 f2), (m3, kcJ cJ 30 f3), (l0, oX4 l1 l2 l3 l4), (l1, kcI cI M1 y1_), (l2, kcI cI M2 y2_), (l3, kcI cI M3 y3_), (l4, kcI cI 28 g66)] := hD
        have k67 := hw
        have hP9 := hP.sub (ws' := [(h, oX0 m1 m2 m3 mc sc tx nr ra ru dy wa se (some l0)), (m1, kcI cI 50 f1), (m2, kcI cI 72 f2), (m3, kcJ cJ 30 f3), (l0, oX4 l1 l2 l3 l4), (l1, kcI cI M1 y1_), (l2, kcI cI M2 y2_), (l3, kcI cI M3 y3_), (l4, kcI cI 28 g66)]) [0, 1, 2, 3, 4, 5, 6, 7, 8] rfl
        have hD9 := hD.sub (ws' := [(h, oX0 m1 m2 m3 mc sc tx nr ra ru dy wa se (some l0)), (m1, kcI cI 50 f1), (m2, kcI cI 72 f2), (m3, kcJ cJ 30 f3), (l0, oX4 l1 l2 l3 l4), (l1, kcI cI M1 y1_), (l2, kcI cI M2 y2_), (l3, kcI cI M3 y3_), (l4, kcI cI 28 g66)]) [0, 1, 2, 3, 4, 5, 6, 7, 8] (by decide) rfl
        exact W.vret hx hb hr (fun t ht hW => ⟨⟨(g66), rfl, (kLet_eq (k2).symm (kLet_eq (k4).symm (kLet_eq (k6).symm (kLet_eq (k8).symm (kLet_eq (k10).symm (kLet_eq (k12).symm (kLet_eq (k14).symm (kLet_eq (k16).symm (kLet_eq (k18).symm (kLet_eq (k20).symm (kLet_eq (k22).symm (kLet_eq (k24).symm (kLet_eq (k26).symm (kLet_eq (k28).symm (kLet_eq (k30).symm (kLet_eq (k32).symm (kLet_eq (k34).symm (kLet_eq (k36).symm (kif_f (neI c38) (kLet_eq (k40).symm (kLet_eq (k42).symm (kif_f (by decide) (kLet_eq (k57).symm (kLet_eq (k59).symm (kLet_eq (k61).symm (kif_t (eqI c63) (kLet_eq (k67).symm rfl))))))))))))))))))))))))))), by rw [ht]; exact hP9, va_K.moved hW.alike hK, hD9⟩, hS.F ht⟩) hS.2.2 dX0_tellLaw_176
  · skip
    refine lv_iconst (v := 1) hx hb dX0_tellLaw_128 (by decide) ?_
    refine lv_goto (tgt := 133) hx hb dX0_tellLaw_129 (by decide) ?_
    refine kcallv (wc := [(l0, oX4 l1 l2 l3 l4), (l1, kcI cI M1 y1_), (l2, kcI cI M2 y2_), (l3, kcI cI M3 y3_), (l4, kcI cI 28 g33)]) (wr := [(h, oX0 m1 m2 m3 mc sc tx nr ra ru dy wa se (some l0)), (m1, kcI cI 50 f1), (m2, kcI cI 72 f2), (m3, kcJ cJ 30 f3)]) hP hD hS hA [4, 5, 6, 7, 8] [0, 1, 2, 3] rfl rfl (by decide) (by decide) (by decide) (fun hPc hDc hFc => va_runVN (C := RX4) (As := [.int 1031, .int 1]) (rest := []) ⟨hx, hb, hml, hown, hts⟩ (z_Law_tellWhether l D cI cJ cB cC l0 l1 l2 l3 l4 M1 M2 M3 y1_ y2_ y3_ g33 1031 1 H.size (rg_w (rg_lit (n := 1) (by decide)) (by decide))) ⟨va_cnB 2 hts gX0_tellLaw_X4_tellWhether_n148 rfl rfl rfl (nM_22 hN) (hts _ w24_8) hdX4_tellWhether ⟨Nat.le_of_ble_eq_true rfl, Nat.le_of_ble_eq_true rfl⟩, hts _ w29_14, hts _ w29_15⟩ ⟨kBlind, va_recv hK hPc (ci := 4) (q0 := 0) rfl rfl, fun U hU hW => ⟨rfl, by rw [hU], hN.warm hW, hE.pass hS hFc hW hU, by rw [hU]; exact hPc, va_K.moved hW.alike hK, hDc⟩⟩ rfl rfl hl.1 rfl (lv_room (Nat.le_of_ble_eq_true rfl)) dX0_tellLaw_133 ⟨Nat.le_of_ble_eq_true rfl, Nat.le_of_ble_eq_true rfl⟩) (fun u H locs hw hP hD hS => ?_)
    obtain ⟨g68, rfl⟩ : ∃ z, z = u := ⟨_, rfl⟩
    have hP : va_P D vwCl [(h, oX0 m1 m2 m3 mc sc tx nr ra ru dy wa se (some l0)), (m1, kcI cI 50 f1), (m2, kcI cI 72 f2), (m3, kcJ cJ 30 f3), (l0, oX4 l1 l2 l3 l4), (l1, kcI cI M1 y1_), (l2, kcI cI M2 y2_), (l3, kcI cI M3 y3_), (l4, kcI cI 28 g68)] H := hP
    have hD : va_D A [(h, oX0 m1 m2 m3 mc sc tx nr ra ru dy wa se (some l0)), (m1, kcI cI 50 f1), (m2, kcI cI 72 f2), (m3, kcJ cJ 30 f3), (l0, oX4 l1 l2 l3 l4), (l1, kcI cI M1 y1_), (l2, kcI cI M2 y2_), (l3, kcI cI M3 y3_), (l4, kcI cI 28 g68)] := hD
    have k69 := hw
    refine lv_aload_n hx hb dX0_tellLaw_136 rfl (lv_at hl 1 rfl) ?_
    refine lv_sipush (v := 1032) hx hb dX0_tellLaw_137 (by decide) ?_
    refine lv_aload_n hx hb dX0_tellLaw_140 rfl (lv_at hl 0 rfl) ?_
    refine lv_iload_n hx hb dX0_tellLaw_141 rfl (lv_at hl 2 rfl) ?_
    refine lv_iload_n hx hb dX0_tellLaw_142 rfl (lv_at hl 3 rfl) ?_
    refine kpurei (wc := [(h, oX0 m1 m2 m3 mc sc tx nr ra ru dy wa se (some l0)), (m1, kcI cI 50 f1), (m2, kcI cI 72 f2), (m3, kcJ cJ 30 f3)]) hP hD hS hA [0, 1, 2, 3] rfl (by decide) (fun hPc hDc hFc => va_runV (As := [.int a, .int b]) (rest := [.int 1032, .ref l0]) ⟨hx, hb, hml, hown, hts⟩ (z_Camp_isLastNeighbour l D cI cJ cB cC h m1 m2 m3 mc sc tx nr ra ru dy wa se (some l0) f1 f2 f3 a b H.size) (cwV 2 hts gX0_tellLaw_X0_isLastNeighbour rfl rfl rfl ⟨rfl, hdX0_isLastNeighbour⟩ ⟨Nat.le_of_ble_eq_true rfl, Nat.le_of_ble_eq_true rfl⟩) ⟨kBlind, va_recv hK hPc (ci := 0) (q0 := 0) rfl rfl, fun U hU hW => ⟨rfl, by rw [hU], hN.warm hW, hE.pass hS hFc hW hU, by rw [hU]; exact hPc, va_K.moved hW.alike hK, hDc⟩⟩ rfl rfl hl.1 rfl (lv_room (Nat.le_of_ble_eq_true rfl)) dX0_tellLaw_143 ⟨Nat.le_of_ble_eq_true rfl, Nat.le_of_ble_eq_true rfl⟩) (fun r70 u H locs hw hP hS => ?_)
    obtain ⟨k71, hw⟩ := hw
    rcases hw with rfl | rfl
    · skip
      refine kcallv (wc := [(l0, oX4 l1 l2 l3 l4), (l1, kcI cI M1 y1_), (l2, kcI cI M2 y2_), (l3, kcI cI M3 y3_), (l4, kcI cI 28 g68)]) (wr := [(h, oX0 m1 m2 m3 mc sc tx nr ra ru dy wa se (some l0)), (m1, kcI cI 50 f1), (m2, kcI cI 72 f2), (m3, kcJ cJ 30 f3)]) hP hD hS hA [4, 5, 6, 7, 8] [0, 1, 2, 3] rfl rfl (by decide) (by decide) (by decide) (fun hPc hDc hFc => va_runVN (C := RX4) (As := [.int 1032, .int 0]) (rest := []) ⟨hx, hb, hml, hown, hts⟩ (z_Law_tellWhether l D cI cJ cB cC l0 l1 l2 l3 l4 M1 M2 M3 y1_ y2_ y3_ g68 1032 0 H.size (rg_w (rg_lit (n := 0) (by decide)) (by decide))) ⟨va_cnB 2 hts gX0_tellLaw_X4_tellWhether_n148 rfl rfl rfl (nM_22 hN) (hts _ w24_8) hdX4_tellWhether ⟨Nat.le_of_ble_eq_true rfl, Nat.le_of_ble_eq_true rfl⟩, hts _ w29_14, hts _ w29_15⟩ ⟨kBlind, va_recv hK hPc (ci := 4) (q0 := 0) rfl rfl, fun U hU hW => ⟨rfl, by rw [hU], hN.warm hW, hE.pass hS hFc hW hU, by rw [hU]; exact hPc, va_K.moved hW.alike hK, hDc⟩⟩ rfl rfl hl.1 rfl (lv_room (Nat.le_of_ble_eq_true rfl)) dX0_tellLaw_146 ⟨Nat.le_of_ble_eq_true rfl, Nat.le_of_ble_eq_true rfl⟩) (fun u H locs hw hP hD hS => ?_)
      obtain ⟨g73, rfl⟩ : ∃ z, z = u := ⟨_, rfl⟩
      have hP : va_P D vwCl [(h, oX0 m1 m2 m3 mc sc tx nr ra ru dy wa se (some l0)), (m1, kcI cI 50 f1), (m2, kcI cI 72 f2), (m3, kcJ cJ 30 f3), (l0, oX4 l1 l2 l3 l4), (l1, kcI cI M1 y1_), (l2, kcI cI M2 y2_), (l3, kcI cI M3 y3_), (l4, kcI cI 28 g73)] H := hP
      have hD : va_D A [(h, oX0 m1 m2 m3 mc sc tx nr ra ru dy wa se (some l0)), (m1, kcI cI 50 f1), (m2, kcI cI 72 f2), (m3, kcJ cJ 30 f3), (l0, oX4 l1 l2 l3 l4), (l1, kcI cI M1 y1_), (l2, kcI cI M2 y2_), (l3, kcI cI M3 y3_), (l4, kcI cI 28 g73)] := hD
      have k74 := hw
      refine lv_aload_n hx hb dX0_tellLaw_149 rfl (lv_at hl 1 rfl) ?_
      refine lv_sipush (v := 1033) hx hb dX0_tellLaw_150 (by decide) ?_
      refine lv_aload_n hx hb dX0_tellLaw_153 rfl (lv_at hl 0 rfl) ?_
      refine lv_iload_n hx hb dX0_tellLaw_154 rfl (lv_at hl 3 rfl) ?_
      refine lv_iconst (v := 0) hx hb dX0_tellLaw_155 (by decide) ?_
      refine kpurei (wc := [(h, oX0 m1 m2 m3 mc sc tx nr ra ru dy wa se (some l0)), (m1, kcI cI 50 f1), (m2, kcI cI 72 f2), (m3, kcJ cJ 30 f3)]) hP hD hS hA [0, 1, 2, 3] rfl (by decide) (fun hPc hDc hFc => va_runV (As := [.int b, .int 0]) (rest := [.int 1033, .ref l0]) ⟨hx, hb, hml, hown, hts⟩ (z_Camp_ofShirt l D cI cJ cB cC h m1 m2 m3 mc sc tx nr ra ru dy wa se (some l0) f1 f2 f3 b 0 H.size) (cwV 2 hts gX0_tellLaw_X0_ofShirt rfl rfl rfl ⟨rfl, hdX0_ofShirt⟩ ⟨Nat.le_of_ble_eq_true rfl, Nat.le_of_ble_eq_true rfl⟩) ⟨kBlind, va_recv hK hPc (ci := 0) (q0 := 0) rfl rfl, fun U hU hW => ⟨rfl, by rw [hU], hN.warm hW, hE.pass hS hFc hW hU, by rw [hU]; exact hPc, va_K.moved hW.alike hK, hDc⟩⟩ rfl rfl hl.1 rfl (lv_room (Nat.le_of_ble_eq_true rfl)) dX0_tellLaw_156 ⟨Nat.le_of_ble_eq_true rfl, Nat.le_of_ble_eq_true rfl⟩) (fun r75 u H locs hw hP hS => ?_)
      have k76 := hw
      refine lv_aload_n hx hb dX0_tellLaw_159 rfl (lv_at hl 0 rfl) ?_
      refine lv_iload_n hx hb dX0_tellLaw_160 rfl (lv_at hl 2 rfl) ?_
      refine lv_iconst (v := 3) hx hb dX0_tellLaw_161 (by decide) ?_
      refine kpurei (wc := [(h, oX0 m1 m2 m3 mc sc tx nr ra ru dy wa se (some l0)), (m1, kcI cI 50 f1), (m2, kcI cI 72 f2), (m3, kcJ cJ 30 f3)]) hP hD hS hA [0, 1, 2, 3] rfl (by decide) (fun hPc hDc hFc => va_runV (As := [.int a, .int 3]) (rest := [.int r75, .int 1033, .ref l0]) ⟨hx, hb, hml, hown, hts⟩ (z_Camp_ofMan l D cI cJ cB cC h m1 m2 m3 mc sc tx nr ra ru dy wa se (some l0) f1 f2 f3 a 3 H.size) (cwV 2 hts gX0_tellLaw_X0_ofMan rfl rfl rfl ⟨rfl, hdX0_ofMan⟩ ⟨Nat.le_of_ble_eq_true rfl, Nat.le_of_ble_eq_true rfl⟩) ⟨kBlind, va_recv hK hPc (ci := 0) (q0 := 0) rfl rfl, fun U hU hW => ⟨rfl, by rw [hU], hN.warm hW, hE.pass hS hFc hW hU, by rw [hU]; exact hPc, va_K.moved hW.alike hK, hDc⟩⟩ rfl rfl hl.1 rfl (lv_room (Nat.le_of_ble_eq_true rfl)) dX0_tellLaw_162 ⟨Nat.le_of_ble_eq_true rfl, Nat.le_of_ble_eq_true rfl⟩) (fun r77 u H locs hw hP hS => ?_)
      have k78 := hw
      refine lv_icmp_ne (tgt := 172) hx hb dX0_tellLaw_165 (by decide) (fun c80 => ?_) (fun c80 => ?_)
      · skip
        refine lv_iconst (v := 0) hx hb dX0_tellLaw_172 (by decide) ?_
        refine kcallv (wc := [(l0, oX4 l1 l2 l3 l4), (l1, kcI cI M1 y1_), (l2, kcI cI M2 y2_), (l3, kcI cI M3 y3_), (l4, kcI cI 28 g73)]) (wr := [(h, oX0 m1 m2 m3 mc sc tx nr ra ru dy wa se (some l0)), (m1, kcI cI 50 f1), (m2, kcI cI 72 f2), (m3, kcJ cJ 30 f3)]) hP hD hS hA [4, 5, 6, 7, 8] [0, 1, 2, 3] rfl rfl (by decide) (by decide) (by decide) (fun hPc hDc hFc => va_runVN (C := RX4) (As := [.int 1033, .int 0]) (rest := []) ⟨hx, hb, hml, hown, hts⟩ (z_Law_tellWhether l D cI cJ cB cC l0 l1 l2 l3 l4 M1 M2 M3 y1_ y2_ y3_ g73 1033 0 H.size (rg_w (rg_lit (n := 0) (by decide)) (by decide))) ⟨va_cnB 2 hts gX0_tellLaw_X4_tellWhether_n148 rfl rfl rfl (nM_22 hN) (hts _ w24_8) hdX4_tellWhether ⟨Nat.le_of_ble_eq_true rfl, Nat.le_of_ble_eq_true rfl⟩, hts _ w29_14, hts _ w29_15⟩ ⟨kBlind, va_recv hK hPc (ci := 4) (q0 := 0) rfl rfl, fun U hU hW => ⟨rfl, by rw [hU], hN.warm hW, hE.pass hS hFc hW hU, by rw [hU]; exact hPc, va_K.moved hW.alike hK, hDc⟩⟩ rfl rfl hl.1 rfl (lv_room (Nat.le_of_ble_eq_true rfl)) dX0_tellLaw_173 ⟨Nat.le_of_ble_eq_true rfl, Nat.le_of_ble_eq_true rfl⟩) (fun u H locs hw hP hD hS => ?_)
        obtain ⟨g81, rfl⟩ : ∃ z, z = u := ⟨_, rfl⟩
        have hP : va_P D vwCl [(h, oX0 m1 m2 m3 mc sc tx nr ra ru dy wa se (some l0)), (m1, kcI cI 50 f1), (m2, kcI cI 72 f2), (m3, kcJ cJ 30 f3), (l0, oX4 l1 l2 l3 l4), (l1, kcI cI M1 y1_), (l2, kcI cI M2 y2_), (l3, kcI cI M3 y3_), (l4, kcI cI 28 g81)] H := hP
        have hD : va_D A [(h, oX0 m1 m2 m3 mc sc tx nr ra ru dy wa se (some l0)), (m1, kcI cI 50 f1), (m2, kcI cI 72 f2), (m3, kcJ cJ 30 f3), (l0, oX4 l1 l2 l3 l4), (l1, kcI cI M1 y1_), (l2, kcI cI M2 y2_), (l3, kcI cI M3 y3_), (l4, kcI cI 28 g81)] := hD
        have k82 := hw
        have hP9 := hP.sub (ws' := [(h, oX0 m1 m2 m3 mc sc tx nr ra ru dy wa se (some l0)), (m1, kcI cI 50 f1), (m2, kcI cI 72 f2), (m3, kcJ cJ 30 f3), (l0, oX4 l1 l2 l3 l4), (l1, kcI cI M1 y1_), (l2, kcI cI M2 y2_), (l3, kcI cI M3 y3_), (l4, kcI cI 28 g81)]) [0, 1, 2, 3, 4, 5, 6, 7, 8] rfl
        have hD9 := hD.sub (ws' := [(h, oX0 m1 m2 m3 mc sc tx nr ra ru dy wa se (some l0)), (m1, kcI cI 50 f1), (m2, kcI cI 72 f2), (m3, kcJ cJ 30 f3), (l0, oX4 l1 l2 l3 l4), (l1, kcI cI M1 y1_), (l2, kcI cI M2 y2_), (l3, kcI cI M3 y3_), (l4, kcI cI 28 g81)]) [0, 1, 2, 3, 4, 5, 6, 7, 8] (by decide) rfl
        exact W.vret hx hb hr (fun t ht hW => ⟨⟨(g81), rfl, (kLet_eq (k2).symm (kLet_eq (k4).symm (kLet_eq (k6).symm (kLet_eq (k8).symm (kLet_eq (k10).symm (kLet_eq (k12).symm (kLet_eq (k14).symm (kLet_eq (k16).symm (kLet_eq (k18).symm (kLet_eq (k20).symm (kLet_eq (k22).symm (kLet_eq (k24).symm (kLet_eq (k26).symm (kLet_eq (k28).symm (kLet_eq (k30).symm (kLet_eq (k32).symm (kLet_eq (k34).symm (kLet_eq (k36).symm (kif_t (eqI c38) (kLet_eq (k69).symm (kLet_eq (k71).symm (kif_t rfl (kLet_eq (k74).symm (kLet_eq (k76).symm (kLet_eq (k78).symm (kif_f (neI c80) (kLet_eq (k82).symm rfl))))))))))))))))))))))))))), by rw [ht]; exact hP9, va_K.moved hW.alike hK, hD9⟩, hS.F ht⟩) hS.2.2 dX0_tellLaw_176
      · skip
        refine lv_iconst (v := 1) hx hb dX0_tellLaw_168 (by decide) ?_
        refine lv_goto (tgt := 173) hx hb dX0_tellLaw_169 (by decide) ?_
        refine kcallv (wc := [(l0, oX4 l1 l2 l3 l4), (l1, kcI cI M1 y1_), (l2, kcI cI M2 y2_), (l3, kcI cI M3 y3_), (l4, kcI cI 28 g73)]) (wr := [(h, oX0 m1 m2 m3 mc sc tx nr ra ru dy wa se (some l0)), (m1, kcI cI 50 f1), (m2, kcI cI 72 f2), (m3, kcJ cJ 30 f3)]) hP hD hS hA [4, 5, 6, 7, 8] [0, 1, 2, 3] rfl rfl (by decide) (by decide) (by decide) (fun hPc hDc hFc => va_runVN (C := RX4) (As := [.int 1033, .int 1]) (rest := []) ⟨hx, hb, hml, hown, hts⟩ (z_Law_tellWhether l D cI cJ cB cC l0 l1 l2 l3 l4 M1 M2 M3 y1_ y2_ y3_ g73 1033 1 H.size (rg_w (rg_lit (n := 1) (by decide)) (by decide))) ⟨va_cnB 2 hts gX0_tellLaw_X4_tellWhether_n148 rfl rfl rfl (nM_22 hN) (hts _ w24_8) hdX4_tellWhether ⟨Nat.le_of_ble_eq_true rfl, Nat.le_of_ble_eq_true rfl⟩, hts _ w29_14, hts _ w29_15⟩ ⟨kBlind, va_recv hK hPc (ci := 4) (q0 := 0) rfl rfl, fun U hU hW => ⟨rfl, by rw [hU], hN.warm hW, hE.pass hS hFc hW hU, by rw [hU]; exact hPc, va_K.moved hW.alike hK, hDc⟩⟩ rfl rfl hl.1 rfl (lv_room (Nat.le_of_ble_eq_true rfl)) dX0_tellLaw_173 ⟨Nat.le_of_ble_eq_true rfl, Nat.le_of_ble_eq_true rfl⟩) (fun u H locs hw hP hD hS => ?_)
        obtain ⟨g83, rfl⟩ : ∃ z, z = u := ⟨_, rfl⟩
        have hP : va_P D vwCl [(h, oX0 m1 m2 m3 mc sc tx nr ra ru dy wa se (some l0)), (m1, kcI cI 50 f1), (m2, kcI cI 72 f2), (m3, kcJ cJ 30 f3), (l0, oX4 l1 l2 l3 l4), (l1, kcI cI M1 y1_), (l2, kcI cI M2 y2_), (l3, kcI cI M3 y3_), (l4, kcI cI 28 g83)] H := hP
        have hD : va_D A [(h, oX0 m1 m2 m3 mc sc tx nr ra ru dy wa se (some l0)), (m1, kcI cI 50 f1), (m2, kcI cI 72 f2), (m3, kcJ cJ 30 f3), (l0, oX4 l1 l2 l3 l4), (l1, kcI cI M1 y1_), (l2, kcI cI M2 y2_), (l3, kcI cI M3 y3_), (l4, kcI cI 28 g83)] := hD
        have k84 := hw
        have hP9 := hP.sub (ws' := [(h, oX0 m1 m2 m3 mc sc tx nr ra ru dy wa se (some l0)), (m1, kcI cI 50 f1), (m2, kcI cI 72 f2), (m3, kcJ cJ 30 f3), (l0, oX4 l1 l2 l3 l4), (l1, kcI cI M1 y1_), (l2, kcI cI M2 y2_), (l3, kcI cI M3 y3_), (l4, kcI cI 28 g83)]) [0, 1, 2, 3, 4, 5, 6, 7, 8] rfl
        have hD9 := hD.sub (ws' := [(h, oX0 m1 m2 m3 mc sc tx nr ra ru dy wa se (some l0)), (m1, kcI cI 50 f1), (m2, kcI cI 72 f2), (m3, kcJ cJ 30 f3), (l0, oX4 l1 l2 l3 l4), (l1, kcI cI M1 y1_), (l2, kcI cI M2 y2_), (l3, kcI cI M3 y3_), (l4, kcI cI 28 g83)]) [0, 1, 2, 3, 4, 5, 6, 7, 8] (by decide) rfl
        exact W.vret hx hb hr (fun t ht hW => ⟨⟨(g83), rfl, (kLet_eq (k2).symm (kLet_eq (k4).symm (kLet_eq (k6).symm (kLet_eq (k8).symm (kLet_eq (k10).symm (kLet_eq (k12).symm (kLet_eq (k14).symm (kLet_eq (k16).symm (kLet_eq (k18).symm (kLet_eq (k20).symm (kLet_eq (k22).symm (kLet_eq (k24).symm (kLet_eq (k26).symm (kLet_eq (k28).symm (kLet_eq (k30).symm (kLet_eq (k32).symm (kLet_eq (k34).symm (kLet_eq (k36).symm (kif_t (eqI c38) (kLet_eq (k69).symm (kLet_eq (k71).symm (kif_t rfl (kLet_eq (k74).symm (kLet_eq (k76).symm (kLet_eq (k78).symm (kif_t (eqI c80) (kLet_eq (k84).symm rfl))))))))))))))))))))))))))), by rw [ht]; exact hP9, va_K.moved hW.alike hK, hD9⟩, hS.F ht⟩) hS.2.2 dX0_tellLaw_176
    · skip
      refine kcallv (wc := [(l0, oX4 l1 l2 l3 l4), (l1, kcI cI M1 y1_), (l2, kcI cI M2 y2_), (l3, kcI cI M3 y3_), (l4, kcI cI 28 g68)]) (wr := [(h, oX0 m1 m2 m3 mc sc tx nr ra ru dy wa se (some l0)), (m1, kcI cI 50 f1), (m2, kcI cI 72 f2), (m3, kcJ cJ 30 f3)]) hP hD hS hA [4, 5, 6, 7, 8] [0, 1, 2, 3] rfl rfl (by decide) (by decide) (by decide) (fun hPc hDc hFc => va_runVN (C := RX4) (As := [.int 1032, .int 1]) (rest := []) ⟨hx, hb, hml, hown, hts⟩ (z_Law_tellWhether l D cI cJ cB cC l0 l1 l2 l3 l4 M1 M2 M3 y1_ y2_ y3_ g68 1032 1 H.size (rg_w (rg_lit (n := 1) (by decide)) (by decide))) ⟨va_cnB 2 hts gX0_tellLaw_X4_tellWhether_n148 rfl rfl rfl (nM_22 hN) (hts _ w24_8) hdX4_tellWhether ⟨Nat.le_of_ble_eq_true rfl, Nat.le_of_ble_eq_true rfl⟩, hts _ w29_14, hts _ w29_15⟩ ⟨kBlind, va_recv hK hPc (ci := 4) (q0 := 0) rfl rfl, fun U hU hW => ⟨rfl, by rw [hU], hN.warm hW, hE.pass hS hFc hW hU, by rw [hU]; exact hPc, va_K.moved hW.alike hK, hDc⟩⟩ rfl rfl hl.1 rfl (lv_room (Nat.le_of_ble_eq_true rfl)) dX0_tellLaw_146 ⟨Nat.le_of_ble_eq_true rfl, Nat.le_of_ble_eq_true rfl⟩) (fun u H locs hw hP hD hS => ?_)
      obtain ⟨g85, rfl⟩ : ∃ z, z = u := ⟨_, rfl⟩
      have hP : va_P D vwCl [(h, oX0 m1 m2 m3 mc sc tx nr ra ru dy wa se (some l0)), (m1, kcI cI 50 f1), (m2, kcI cI 72 f2), (m3, kcJ cJ 30 f3), (l0, oX4 l1 l2 l3 l4), (l1, kcI cI M1 y1_), (l2, kcI cI M2 y2_), (l3, kcI cI M3 y3_), (l4, kcI cI 28 g85)] H := hP
      have hD : va_D A [(h, oX0 m1 m2 m3 mc sc tx nr ra ru dy wa se (some l0)), (m1, kcI cI 50 f1), (m2, kcI cI 72 f2), (m3, kcJ cJ 30 f3), (l0, oX4 l1 l2 l3 l4), (l1, kcI cI M1 y1_), (l2, kcI cI M2 y2_), (l3, kcI cI M3 y3_), (l4, kcI cI 28 g85)] := hD
      have k86 := hw
      refine lv_aload_n hx hb dX0_tellLaw_149 rfl (lv_at hl 1 rfl) ?_
      refine lv_sipush (v := 1033) hx hb dX0_tellLaw_150 (by decide) ?_
      refine lv_aload_n hx hb dX0_tellLaw_153 rfl (lv_at hl 0 rfl) ?_
      refine lv_iload_n hx hb dX0_tellLaw_154 rfl (lv_at hl 3 rfl) ?_
      refine lv_iconst (v := 0) hx hb dX0_tellLaw_155 (by decide) ?_
      refine kpurei (wc := [(h, oX0 m1 m2 m3 mc sc tx nr ra ru dy wa se (some l0)), (m1, kcI cI 50 f1), (m2, kcI cI 72 f2), (m3, kcJ cJ 30 f3)]) hP hD hS hA [0, 1, 2, 3] rfl (by decide) (fun hPc hDc hFc => va_runV (As := [.int b, .int 0]) (rest := [.int 1033, .ref l0]) ⟨hx, hb, hml, hown, hts⟩ (z_Camp_ofShirt l D cI cJ cB cC h m1 m2 m3 mc sc tx nr ra ru dy wa se (some l0) f1 f2 f3 b 0 H.size) (cwV 2 hts gX0_tellLaw_X0_ofShirt rfl rfl rfl ⟨rfl, hdX0_ofShirt⟩ ⟨Nat.le_of_ble_eq_true rfl, Nat.le_of_ble_eq_true rfl⟩) ⟨kBlind, va_recv hK hPc (ci := 0) (q0 := 0) rfl rfl, fun U hU hW => ⟨rfl, by rw [hU], hN.warm hW, hE.pass hS hFc hW hU, by rw [hU]; exact hPc, va_K.moved hW.alike hK, hDc⟩⟩ rfl rfl hl.1 rfl (lv_room (Nat.le_of_ble_eq_true rfl)) dX0_tellLaw_156 ⟨Nat.le_of_ble_eq_true rfl, Nat.le_of_ble_eq_true rfl⟩) (fun r87 u H locs hw hP hS => ?_)
      have k88 := hw
      refine lv_aload_n hx hb dX0_tellLaw_159 rfl (lv_at hl 0 rfl) ?_
      refine lv_iload_n hx hb dX0_tellLaw_160 rfl (lv_at hl 2 rfl) ?_
      refine lv_iconst (v := 3) hx hb dX0_tellLaw_161 (by decide) ?_
      refine kpurei (wc := [(h, oX0 m1 m2 m3 mc sc tx nr ra ru dy wa se (some l0)), (m1, kcI cI 50 f1), (m2, kcI cI 72 f2), (m3, kcJ cJ 30 f3)]) hP hD hS hA [0, 1, 2, 3] rfl (by decide) (fun hPc hDc hFc => va_runV (As := [.int a, .int 3]) (rest := [.int r87, .int 1033, .ref l0]) ⟨hx, hb, hml, hown, hts⟩ (z_Camp_ofMan l D cI cJ cB cC h m1 m2 m3 mc sc tx nr ra ru dy wa se (some l0) f1 f2 f3 a 3 H.size) (cwV 2 hts gX0_tellLaw_X0_ofMan rfl rfl rfl ⟨rfl, hdX0_ofMan⟩ ⟨Nat.le_of_ble_eq_true rfl, Nat.le_of_ble_eq_true rfl⟩) ⟨kBlind, va_recv hK hPc (ci := 0) (q0 := 0) rfl rfl, fun U hU hW => ⟨rfl, by rw [hU], hN.warm hW, hE.pass hS hFc hW hU, by rw [hU]; exact hPc, va_K.moved hW.alike hK, hDc⟩⟩ rfl rfl hl.1 rfl (lv_room (Nat.le_of_ble_eq_true rfl)) dX0_tellLaw_162 ⟨Nat.le_of_ble_eq_true rfl, Nat.le_of_ble_eq_true rfl⟩) (fun r89 u H locs hw hP hS => ?_)
      have k90 := hw
      refine lv_icmp_ne (tgt := 172) hx hb dX0_tellLaw_165 (by decide) (fun c92 => ?_) (fun c92 => ?_)
      · skip
        refine lv_iconst (v := 0) hx hb dX0_tellLaw_172 (by decide) ?_
        refine kcallv (wc := [(l0, oX4 l1 l2 l3 l4), (l1, kcI cI M1 y1_), (l2, kcI cI M2 y2_), (l3, kcI cI M3 y3_), (l4, kcI cI 28 g85)]) (wr := [(h, oX0 m1 m2 m3 mc sc tx nr ra ru dy wa se (some l0)), (m1, kcI cI 50 f1), (m2, kcI cI 72 f2), (m3, kcJ cJ 30 f3)]) hP hD hS hA [4, 5, 6, 7, 8] [0, 1, 2, 3] rfl rfl (by decide) (by decide) (by decide) (fun hPc hDc hFc => va_runVN (C := RX4) (As := [.int 1033, .int 0]) (rest := []) ⟨hx, hb, hml, hown, hts⟩ (z_Law_tellWhether l D cI cJ cB cC l0 l1 l2 l3 l4 M1 M2 M3 y1_ y2_ y3_ g85 1033 0 H.size (rg_w (rg_lit (n := 0) (by decide)) (by decide))) ⟨va_cnB 2 hts gX0_tellLaw_X4_tellWhether_n148 rfl rfl rfl (nM_22 hN) (hts _ w24_8) hdX4_tellWhether ⟨Nat.le_of_ble_eq_true rfl, Nat.le_of_ble_eq_true rfl⟩, hts _ w29_14, hts _ w29_15⟩ ⟨kBlind, va_recv hK hPc (ci := 4) (q0 := 0) rfl rfl, fun U hU hW => ⟨rfl, by rw [hU], hN.warm hW, hE.pass hS hFc hW hU, by rw [hU]; exact hPc, va_K.moved hW.alike hK, hDc⟩⟩ rfl rfl hl.1 rfl (lv_room (Nat.le_of_ble_eq_true rfl)) dX0_tellLaw_173 ⟨Nat.le_of_ble_eq_true rfl, Nat.le_of_ble_eq_true rfl⟩) (fun u H locs hw hP hD hS => ?_)
        obtain ⟨g93, rfl⟩ : ∃ z, z = u := ⟨_, rfl⟩
        have hP : va_P D vwCl [(h, oX0 m1 m2 m3 mc sc tx nr ra ru dy wa se (some l0)), (m1, kcI cI 50 f1), (m2, kcI cI 72 f2), (m3, kcJ cJ 30 f3), (l0, oX4 l1 l2 l3 l4), (l1, kcI cI M1 y1_), (l2, kcI cI M2 y2_), (l3, kcI cI M3 y3_), (l4, kcI cI 28 g93)] H := hP
        have hD : va_D A [(h, oX0 m1 m2 m3 mc sc tx nr ra ru dy wa se (some l0)), (m1, kcI cI 50 f1), (m2, kcI cI 72 f2), (m3, kcJ cJ 30 f3), (l0, oX4 l1 l2 l3 l4), (l1, kcI cI M1 y1_), (l2, kcI cI M2 y2_), (l3, kcI cI M3 y3_), (l4, kcI cI 28 g93)] := hD
        have k94 := hw
        have hP9 := hP.sub (ws' := [(h, oX0 m1 m2 m3 mc sc tx nr ra ru dy wa se (some l0)), (m1, kcI cI 50 f1), (m2, kcI cI 72 f2), (m3, kcJ cJ 30 f3), (l0, oX4 l1 l2 l3 l4), (l1, kcI cI M1 y1_), (l2, kcI cI M2 y2_), (l3, kcI cI M3 y3_), (l4, kcI cI 28 g93)]) [0, 1, 2, 3, 4, 5, 6, 7, 8] rfl
        have hD9 := hD.sub (ws' := [(h, oX0 m1 m2 m3 mc sc tx nr ra ru dy wa se (some l0)), (m1, kcI cI 50 f1), (m2, kcI cI 72 f2), (m3, kcJ cJ 30 f3), (l0, oX4 l1 l2 l3 l4), (l1, kcI cI M1 y1_), (l2, kcI cI M2 y2_), (l3, kcI cI M3 y3_), (l4, kcI cI 28 g93)]) [0, 1, 2, 3, 4, 5, 6, 7, 8] (by decide) rfl
        exact W.vret hx hb hr (fun t ht hW => ⟨⟨(g93), rfl, (kLet_eq (k2).symm (kLet_eq (k4).symm (kLet_eq (k6).symm (kLet_eq (k8).symm (kLet_eq (k10).symm (kLet_eq (k12).symm (kLet_eq (k14).symm (kLet_eq (k16).symm (kLet_eq (k18).symm (kLet_eq (k20).symm (kLet_eq (k22).symm (kLet_eq (k24).symm (kLet_eq (k26).symm (kLet_eq (k28).symm (kLet_eq (k30).symm (kLet_eq (k32).symm (kLet_eq (k34).symm (kLet_eq (k36).symm (kif_t (eqI c38) (kLet_eq (k69).symm (kLet_eq (k71).symm (kif_f (by decide) (kLet_eq (k86).symm (kLet_eq (k88).symm (kLet_eq (k90).symm (kif_f (neI c92) (kLet_eq (k94).symm rfl))))))))))))))))))))))))))), by rw [ht]; exact hP9, va_K.moved hW.alike hK, hD9⟩, hS.F ht⟩) hS.2.2 dX0_tellLaw_176
      · skip
        refine lv_iconst (v := 1) hx hb dX0_tellLaw_168 (by decide) ?_
        refine lv_goto (tgt := 173) hx hb dX0_tellLaw_169 (by decide) ?_
        refine kcallv (wc := [(l0, oX4 l1 l2 l3 l4), (l1, kcI cI M1 y1_), (l2, kcI cI M2 y2_), (l3, kcI cI M3 y3_), (l4, kcI cI 28 g85)]) (wr := [(h, oX0 m1 m2 m3 mc sc tx nr ra ru dy wa se (some l0)), (m1, kcI cI 50 f1), (m2, kcI cI 72 f2), (m3, kcJ cJ 30 f3)]) hP hD hS hA [4, 5, 6, 7, 8] [0, 1, 2, 3] rfl rfl (by decide) (by decide) (by decide) (fun hPc hDc hFc => va_runVN (C := RX4) (As := [.int 1033, .int 1]) (rest := []) ⟨hx, hb, hml, hown, hts⟩ (z_Law_tellWhether l D cI cJ cB cC l0 l1 l2 l3 l4 M1 M2 M3 y1_ y2_ y3_ g85 1033 1 H.size (rg_w (rg_lit (n := 1) (by decide)) (by decide))) ⟨va_cnB 2 hts gX0_tellLaw_X4_tellWhether_n148 rfl rfl rfl (nM_22 hN) (hts _ w24_8) hdX4_tellWhether ⟨Nat.le_of_ble_eq_true rfl, Nat.le_of_ble_eq_true rfl⟩, hts _ w29_14, hts _ w29_15⟩ ⟨kBlind, va_recv hK hPc (ci := 4) (q0 := 0) rfl rfl, fun U hU hW => ⟨rfl, by rw [hU], hN.warm hW, hE.pass hS hFc hW hU, by rw [hU]; exact hPc, va_K.moved hW.alike hK, hDc⟩⟩ rfl rfl hl.1 rfl (lv_room (Nat.le_of_ble_eq_true rfl)) dX0_tellLaw_173 ⟨Nat.le_of_ble_eq_true rfl, Nat.le_of_ble_eq_true rfl⟩) (fun u H locs hw hP hD hS => ?_)
        obtain ⟨g95, rfl⟩ : ∃ z, z = u := ⟨_, rfl⟩
        have hP : va_P D vwCl [(h, oX0 m1 m2 m3 mc sc tx nr ra ru dy wa se (some l0)), (m1, kcI cI 50 f1), (m2, kcI cI 72 f2), (m3, kcJ cJ 30 f3), (l0, oX4 l1 l2 l3 l4), (l1, kcI cI M1 y1_), (l2, kcI cI M2 y2_), (l3, kcI cI M3 y3_), (l4, kcI cI 28 g95)] H := hP
        have hD : va_D A [(h, oX0 m1 m2 m3 mc sc tx nr ra ru dy wa se (some l0)), (m1, kcI cI 50 f1), (m2, kcI cI 72 f2), (m3, kcJ cJ 30 f3), (l0, oX4 l1 l2 l3 l4), (l1, kcI cI M1 y1_), (l2, kcI cI M2 y2_), (l3, kcI cI M3 y3_), (l4, kcI cI 28 g95)] := hD
        have k96 := hw
        have hP9 := hP.sub (ws' := [(h, oX0 m1 m2 m3 mc sc tx nr ra ru dy wa se (some l0)), (m1, kcI cI 50 f1), (m2, kcI cI 72 f2), (m3, kcJ cJ 30 f3), (l0, oX4 l1 l2 l3 l4), (l1, kcI cI M1 y1_), (l2, kcI cI M2 y2_), (l3, kcI cI M3 y3_), (l4, kcI cI 28 g95)]) [0, 1, 2, 3, 4, 5, 6, 7, 8] rfl
        have hD9 := hD.sub (ws' := [(h, oX0 m1 m2 m3 mc sc tx nr ra ru dy wa se (some l0)), (m1, kcI cI 50 f1), (m2, kcI cI 72 f2), (m3, kcJ cJ 30 f3), (l0, oX4 l1 l2 l3 l4), (l1, kcI cI M1 y1_), (l2, kcI cI M2 y2_), (l3, kcI cI M3 y3_), (l4, kcI cI 28 g95)]) [0, 1, 2, 3, 4, 5, 6, 7, 8] (by decide) rfl
        exact W.vret hx hb hr (fun t ht hW => ⟨⟨(g95), rfl, (kLet_eq (k2).symm (kLet_eq (k4).symm (kLet_eq (k6).symm (kLet_eq (k8).symm (kLet_eq (k10).symm (kLet_eq (k12).symm (kLet_eq (k14).symm (kLet_eq (k16).symm (kLet_eq (k18).symm (kLet_eq (k20).symm (kLet_eq (k22).symm (kLet_eq (k24).symm (kLet_eq (k26).symm (kLet_eq (k28).symm (kLet_eq (k30).symm (kLet_eq (k32).symm (kLet_eq (k34).symm (kLet_eq (k36).symm (kif_t (eqI c38) (kLet_eq (k69).symm (kLet_eq (k71).symm (kif_f (by decide) (kLet_eq (k86).symm (kLet_eq (k88).symm (kLet_eq (k90).symm (kif_t (eqI c92) (kLet_eq (k96).symm rfl))))))))))))))))))))))))))), by rw [ht]; exact hP9, va_K.moved hW.alike hK, hD9⟩, hS.F ht⟩) hS.2.2 dX0_tellLaw_176

theorem gX0_lawLines_X4_size_n152 : GoodIn kG (kwX4_size) := gK w25_12 gGG
theorem dX0_lawLines_11 : decode cX0_lawLines 11 = .ok (.aload_n 0, 1) := by decide +kernel
theorem dX0_lawLines_12 : decode cX0_lawLines 12 = .ok (.getfield 50, 3) := by decide +kernel
theorem dX0_lawLines_15 : decode cX0_lawLines 15 = .ok (.invokevirtual 152, 3) := by decide +kernel
set_option maxHeartbeats 4000000 in
set_option maxRecDepth 100000 in
/-- Camp.lawLines (s) -/
theorem z_Camp_lawLines_s (l : Launch) (D : va_G) (cI cJ cB cC : ClassId) (h : Nat) (m1 : Nat) (m2 : Nat) (m3 : Nat) (mc : Int32) (sc : Int32) (tx : Int32) (nr : Int32) (ra : Int32) (ru : Int32) (dy : Int32) (wa : Int32) (se : Int32) (f1 : Nat → Int32) (f2 : Nat → Int32) (f3 : Nat → Int64) (l0 : Nat) (l1 : Nat) (l2 : Nat) (l3 : Nat) (l4 : Nat) (M1 : Nat) (M2 : Nat) (M3 : Nat) (y1_ : Nat → Int32) (y2_ : Nat → Int32) (y3_ : Nat → Int32) (y4_ : Nat → Int32) (sz : Nat)  : Met l yX0_lawLines kwX0_lawLines ({ frames := 1, cells := 0, slots := 0, locals := 20 } : Room) (kPre D (kT cI cJ cB cC) sz [(h, oX0 m1 m2 m3 mc sc tx nr ra ru dy wa se (some l0)), (m1, kcI cI 50 f1), (m2, kcI cI 72 f2), (m3, kcJ cJ 30 f3), (l0, oX4 l1 l2 l3 l4), (l1, kcI cI M1 y1_), (l2, kcI cI M2 y2_), (l3, kcI cI M3 y3_), (l4, kcI cI 28 y4_)] [.ref h]) (va_Qi (fun (r : Int32) (_ : Unit) => F_z_Camp_lawLines_s M3 = ((r : Int32).toInt)) (fun (_ : Unit) (t : State) => kB D (kT cI cJ cB cC) (va_A [(h, oX0 m1 m2 m3 mc sc tx nr ra ru dy wa se (some l0)), (m1, kcI cI 50 f1), (m2, kcI cI 72 f2), (m3, kcJ cJ 30 f3), (l0, oX4 l1 l2 l3 l4), (l1, kcI cI M1 y1_), (l2, kcI cI M2 y2_), (l3, kcI cI M3 y3_), (l4, kcI cI 28 y4_)] sz) [(h, oX0 m1 m2 m3 mc sc tx nr ra ru dy wa se (some l0)), (m1, kcI cI 50 f1), (m2, kcI cI 72 f2), (m3, kcJ cJ 30 f3), (l0, oX4 l1 l2 l3 l4), (l1, kcI cI M1 y1_), (l2, kcI cI M2 y2_), (l3, kcI cI M3 y3_), (l4, kcI cI 28 y4_)] t) (va_A [(h, oX0 m1 m2 m3 mc sc tx nr ra ru dy wa se (some l0)), (m1, kcI cI 50 f1), (m2, kcI cI 72 f2), (m3, kcJ cJ 30 f3), (l0, oX4 l1 l2 l3 l4), (l1, kcI cI M1 y1_), (l2, kcI cI M2 y2_), (l3, kcI cI M3 y3_), (l4, kcI cI 28 y4_)] sz)) 0 0 (va_A [(h, oX0 m1 m2 m3 mc sc tx nr ra ru dy wa se (some l0)), (m1, kcI cI 50 f1), (m2, kcI cI 72 f2), (m3, kcJ cJ 30 f3), (l0, oX4 l1 l2 l3 l4), (l1, kcI cI M1 y1_), (l2, kcI cI M2 y2_), (l3, kcI cI M3 y3_), (l4, kcI cI 28 y4_)] sz) := by
  refine Met.ofW (cc := cX0_lawLines) (maxL := 1) (ret := (some .int)) (by decide) rfl ?_
  intro p e s m args below meth c s₁ B hml hv
  obtain ⟨rfl, hsz, hN, hE, hP, hK, hD0⟩ := hv
  have hx := B.exec
  have hb := B.bytes
  have hr := B.returns
  have hts := fun (w : Cond) (h : w ∈ kG) => atoms_spec (ws := kwX0_lawLines) B.pre w (List.mem_cons_of_mem _ h)
  have hown : s.vm.findClass RX0 = some m.cls := findClass_of_methodNamed B.named
  subst hsz
  have hD := hD0.self (sz := s.heap.size)
  generalize hAe : va_A [(h, oX0 m1 m2 m3 mc sc tx nr ra ru dy wa se (some l0)), (m1, kcI cI 50 f1), (m2, kcI cI 72 f2), (m3, kcJ cJ 30 f3), (l0, oX4 l1 l2 l3 l4), (l1, kcI cI M1 y1_), (l2, kcI cI M2 y2_), (l3, kcI cI M3 y3_), (l4, kcI cI 28 y4_)] s.heap.size = A at hD hE ⊢
  have hA : ∀ q : Nat, s.heap.size ≤ q → A q := fun q h => by rw [← hAe]; exact Or.inr h
  have hl := lv_entry ([.ref h]) (n := 1) (Nat.le_of_ble_eq_true rfl)
  rw [lg_entry_eq]
  generalize (lg_sl ([.ref h]) ++ List.replicate (1 - (lg_sl ([.ref h])).length) Slot.unset).toArray = ls at hl ⊢
  have hl : lv_has ls 1 [(0, .ref h)] := hl
  obtain ⟨H, hH0⟩ : ∃ H, H = s.heap := ⟨_, rfl⟩
  have hS : va_S A s.heap H [] := by rw [hH0]; exact va_S.rf
  have hP : va_P D vwCl [(h, oX0 m1 m2 m3 mc sc tx nr ra ru dy wa se (some l0)), (m1, kcI cI 50 f1), (m2, kcI cI 72 f2), (m3, kcJ cJ 30 f3), (l0, oX4 l1 l2 l3 l4), (l1, kcI cI M1 y1_), (l2, kcI cI M2 y2_), (l3, kcI cI M3 y3_), (l4, kcI cI 28 y4_)] H := by rw [hH0]; exact hP
  refine kHeap hH0 ?_
  clear hH0
  refine lv_aload_n hx hb dX0_lawLines_0 rfl (lv_at hl 0 rfl) ?_
  refine va_get (D := D) (ci := 0) (v := .ref l0) (C := RX0) (T := TX0) (N := 13) hx hb hts iG_X0 hown hK hP 0 rfl rfl 12 (by decide) (hts _ w2_14) (fun _ h9 => h9) rfl dX0_lawLines_1 ?_
  refine lv_ifnonnull (tgt := 11) hx hb dX0_lawLines_4 (by decide) ?_
  refine lv_aload_n hx hb dX0_lawLines_11 rfl (lv_at hl 0 rfl) ?_
  refine va_get (D := D) (ci := 0) (v := .ref l0) (C := RX0) (T := TX0) (N := 13) hx hb hts iG_X0 hown hK hP 0 rfl rfl 12 (by decide) (hts _ w2_14) (fun _ h9 => h9) rfl dX0_lawLines_12 ?_
  refine kpurei (wc := [(l0, oX4 l1 l2 l3 l4), (l1, kcI cI M1 y1_), (l2, kcI cI M2 y2_), (l3, kcI cI M3 y3_), (l4, kcI cI 28 y4_)]) hP hD hS hA [4, 5, 6, 7, 8] rfl (by decide) (fun hPc hDc hFc => va_runVN (C := RX4) (As := []) (rest := []) ⟨hx, hb, hml, hown, hts⟩ (z_Law_size l D cI cJ cB cC l0 l1 l2 l3 l4 M1 M2 M3 y1_ y2_ y3_ y4_ H.size) ⟨va_cnB 0 hts gX0_lawLines_X4_size_n152 rfl rfl rfl (nM_37 hN) (hts _ w24_8) hdX4_size ⟨Nat.le_of_ble_eq_true rfl, Nat.le_of_ble_eq_true rfl⟩, hts _ w25_10, hts _ w25_11⟩ ⟨kBlind, va_recv hK hPc (ci := 4) (q0 := 0) rfl rfl, fun U hU hW => ⟨rfl, by rw [hU], hN.warm hW, hE.pass hS hFc hW hU, by rw [hU]; exact hPc, va_K.moved hW.alike hK, hDc⟩⟩ rfl rfl hl.1 rfl (lv_room (Nat.le_of_ble_eq_true rfl)) dX0_lawLines_15 ⟨Nat.le_of_ble_eq_true rfl, Nat.le_of_ble_eq_true rfl⟩) (fun r3 u H locs hw hP hS => ?_)
  have k4 := hw
  have hP9 := hP.sub (ws' := [(h, oX0 m1 m2 m3 mc sc tx nr ra ru dy wa se (some l0)), (m1, kcI cI 50 f1), (m2, kcI cI 72 f2), (m3, kcJ cJ 30 f3), (l0, oX4 l1 l2 l3 l4), (l1, kcI cI M1 y1_), (l2, kcI cI M2 y2_), (l3, kcI cI M3 y3_), (l4, kcI cI 28 y4_)]) [0, 1, 2, 3, 4, 5, 6, 7, 8] rfl
  have hD9 := hD.sub (ws' := [(h, oX0 m1 m2 m3 mc sc tx nr ra ru dy wa se (some l0)), (m1, kcI cI 50 f1), (m2, kcI cI 72 f2), (m3, kcJ cJ 30 f3), (l0, oX4 l1 l2 l3 l4), (l1, kcI cI M1 y1_), (l2, kcI cI M2 y2_), (l3, kcI cI M3 y3_), (l4, kcI cI 28 y4_)]) [0, 1, 2, 3, 4, 5, 6, 7, 8] (by decide) rfl
  exact W.iret (v := r3) hx hb hr (fun t ht hW => ⟨⟨r3, (), rfl, (kLet_eq (k4).symm rfl), by rw [ht]; exact hP9, va_K.moved hW.alike hK, hD9⟩, hS.F ht⟩) hS.2.2 dX0_lawLines_18

def kwX0_forbids : List Cond := .code yX0_forbids cX0_forbids 3 (some .boolean) :: kG
theorem hdX0_forbids : yX0_forbids.cls ≠ "java/lang/invoke/MethodHandle" ∧ yX0_forbids.cls ≠ "java/lang/invoke/VarHandle" ∧ (parseMethodDescriptor yX0_forbids.desc).map (fun d => d.parameters.length) = some 2 := by decide +kernel
theorem gX0_forbids_X0_isLastNeighbour : GoodIn kG (wsV RX0 126 RX0 yX0_isLastNeighbour kwX0_isLastNeighbour) := gK w29_2 (gK w29_3 (gK w29_4 (gK w0_19 (gK w29_5 gGG))))
theorem dX0_forbids_0 : decode cX0_forbids 0 = .ok (.aload_n 0, 1) := by decide +kernel
theorem dX0_forbids_1 : decode cX0_forbids 1 = .ok (.getfield 50, 3) := by decide +kernel
theorem dX0_forbids_4 : decode cX0_forbids 4 = .ok (.ifnonnull 10, 3) := by decide +kernel
theorem dX0_forbids_7 : decode cX0_forbids 7 = .ok (.aload_n 0, 1) := by decide +kernel
theorem dX0_forbids_8 : decode cX0_forbids 8 = .ok (.iload_n 1, 1) := by decide +kernel
theorem dX0_forbids_9 : decode cX0_forbids 9 = .ok (.iload_n 2, 1) := by decide +kernel
theorem dX0_forbids_10 : decode cX0_forbids 10 = .ok (.invokevirtual 126, 3) := by decide +kernel
theorem dX0_forbids_13 : decode cX0_forbids 13 = .ok (.ireturn, 1) := by decide +kernel
set_option maxHeartbeats 4000000 in
set_option maxRecDepth 100000 in
/-- Camp.forbids (n) -/
theorem z_Camp_forbids_n (l : Launch) (D : va_G) (cI cJ cB cC : ClassId) (h : Nat) (m1 : Nat) (m2 : Nat) (m3 : Nat) (mc : Int32) (sc : Int32) (tx : Int32) (nr : Int32) (ra : Int32) (ru : Int32) (dy : Int32) (wa : Int32) (se : Int32) (f1 : Nat → Int32) (f2 : Nat → Int32) (f3 : Nat → Int64) (a : Int32) (b : Int32) (sz : Nat)  : Met l yX0_forbids kwX0_forbids ({ frames := 3, cells := 0, slots := 0, locals := 68 } : Room) (kPre D (kT cI cJ cB cC) sz [(h, oX0 m1 m2 m3 mc sc tx nr ra ru dy wa se none), (m1, kcI cI 50 f1), (m2, kcI cI 72 f2), (m3, kcJ cJ 30 f3)] [.ref h, .int a, .int b]) (va_Qi (fun (r : Int32) (_ : Unit) => F_z_Camp_forbids_n (sc : Int32).toInt (nr : Int32).toInt (gT f1) f3 (a : Int32).toInt (b : Int32).toInt = ((r : Int32).toInt) ∧ ((r = 0) ∨ (r = 1))) (fun (_ : Unit) (t : State) => kB D (kT cI cJ cB cC) (va_A [(h, oX0 m1 m2 m3 mc sc tx nr ra ru dy wa se none), (m1, kcI cI 50 f1), (m2, kcI cI 72 f2), (m3, kcJ cJ 30 f3)] sz) [(h, oX0 m1 m2 m3 mc sc tx nr ra ru dy wa se none), (m1, kcI cI 50 f1), (m2, kcI cI 72 f2), (m3, kcJ cJ 30 f3)] t) (va_A [(h, oX0 m1 m2 m3 mc sc tx nr ra ru dy wa se none), (m1, kcI cI 50 f1), (m2, kcI cI 72 f2), (m3, kcJ cJ 30 f3)] sz)) 0 0 (va_A [(h, oX0 m1 m2 m3 mc sc tx nr ra ru dy wa se none), (m1, kcI cI 50 f1), (m2, kcI cI 72 f2), (m3, kcJ cJ 30 f3)] sz) := by
  refine Met.ofW (cc := cX0_forbids) (maxL := 3) (ret := (some .boolean)) (by decide) rfl ?_
  intro p e s m args below meth c s₁ B hml hv
  obtain ⟨rfl, hsz, hN, hE, hP, hK, hD0⟩ := hv
  have hx := B.exec
  have hb := B.bytes
  have hr := B.returns
  have hts := fun (w : Cond) (h : w ∈ kG) => atoms_spec (ws := kwX0_forbids) B.pre w (List.mem_cons_of_mem _ h)
  have hown : s.vm.findClass RX0 = some m.cls := findClass_of_methodNamed B.named
  subst hsz
  have hD := hD0.self (sz := s.heap.size)
  generalize hAe : va_A [(h, oX0 m1 m2 m3 mc sc tx nr ra ru dy wa se none), (m1, kcI cI 50 f1), (m2, kcI cI 72 f2), (m3, kcJ cJ 30 f3)] s.heap.size = A at hD hE ⊢
  have hA : ∀ q : Nat, s.heap.size ≤ q → A q := fun q h => by rw [← hAe]; exact Or.inr h
  have hl := lv_entry ([.ref h, .int a, .int b]) (n := 3) (Nat.le_of_ble_eq_true rfl)
  rw [lg_entry_eq]
  generalize (lg_sl ([.ref h, .int a, .int b]) ++ List.replicate (3 - (lg_sl ([.ref h, .int a, .int b])).length) Slot.unset).toArray = ls at hl ⊢
  have hl : lv_has ls 3 [(0, .ref h), (1, .int a), (2, .int b)] := hl
  obtain ⟨H, hH0⟩ : ∃ H, H = s.heap := ⟨_, rfl⟩
  have hS : va_S A s.heap H [] := by rw [hH0]; exact va_S.rf
  have hP : va_P D vwCl [(h, oX0 m1 m2 m3 mc sc tx nr ra ru dy wa se none), (m1, kcI cI 50 f1), (m2, kcI cI 72 f2), (m3, kcJ cJ 30 f3)] H := by rw [hH0]; exact hP
  refine kHeap hH0 ?_
  clear hH0
  refine lv_aload_n hx hb dX0_forbids_0 rfl (lv_at hl 0 rfl) ?_
  refine va_get (D := D) (ci := 0) (v := .null) (C := RX0) (T := TX0) (N := 13) hx hb hts iG_X0 hown hK hP 0 rfl rfl 12 (by decide) (hts _ w2_14) (fun _ h9 => h9) rfl dX0_forbids_1 ?_
  refine lv_ifnonnullN hx hb dX0_forbids_4 ?_
  refine lv_aload_n hx hb dX0_forbids_7 rfl (lv_at hl 0 rfl) ?_
  refine lv_iload_n hx hb dX0_forbids_8 rfl (lv_at hl 1 rfl) ?_
  refine lv_iload_n hx hb dX0_forbids_9 rfl (lv_at hl 2 rfl) ?_
  refine kpurei (wc := [(h, oX0 m1 m2 m3 mc sc tx nr ra ru dy wa se none), (m1, kcI cI 50 f1), (m2, kcI cI 72 f2), (m3, kcJ cJ 30 f3)]) hP hD hS hA [0, 1, 2, 3] rfl (by decide) (fun hPc hDc hFc => va_runV (As := [.int a, .int b]) (rest := []) ⟨hx, hb, hml, hown, hts⟩ (z_Camp_isLastNeighbour l D cI cJ cB cC h m1 m2 m3 mc sc tx nr ra ru dy wa se none f1 f2 f3 a b H.size) (cwV 2 hts gX0_forbids_X0_isLastNeighbour rfl rfl rfl ⟨rfl, hdX0_isLastNeighbour⟩ ⟨Nat.le_of_ble_eq_true rfl, Nat.le_of_ble_eq_true rfl⟩) ⟨kBlind, va_recv hK hPc (ci := 0) (q0 := 0) rfl rfl, fun U hU hW => ⟨rfl, by rw [hU], hN.warm hW, hE.pass hS hFc hW hU, by rw [hU]; exact hPc, va_K.moved hW.alike hK, hDc⟩⟩ rfl rfl hl.1 rfl (lv_room (Nat.le_of_ble_eq_true rfl)) dX0_forbids_10 ⟨Nat.le_of_ble_eq_true rfl, Nat.le_of_ble_eq_true rfl⟩) (fun r1 u H locs hw hP hS => ?_)
  obtain ⟨k2, hw⟩ := hw
  rcases hw with rfl | rfl
  · skip
    have hP9 := hP.sub (ws' := [(h, oX0 m1 m2 m3 mc sc tx nr ra ru dy wa se none), (m1, kcI cI 50 f1), (m2, kcI cI 72 f2), (m3, kcJ cJ 30 f3)]) [0, 1, 2, 3] rfl
    have hD9 := hD.sub (ws' := [(h, oX0 m1 m2 m3 mc sc tx nr ra ru dy wa se none), (m1, kcI cI 50 f1), (m2, kcI cI 72 f2), (m3, kcJ cJ 30 f3)]) [0, 1, 2, 3] (by decide) rfl
    exact W.zret (v := 0) hx hb hr (by decide) (fun t ht hW => ⟨⟨0, (), rfl, ⟨(kLet_eq (k2).symm (kif_t rfl rfl)), (Or.inl rfl)⟩, by rw [ht]; exact hP9, va_K.moved hW.alike hK, hD9⟩, hS.F ht⟩) hS.2.2 dX0_forbids_13
  · skip
    have hP9 := hP.sub (ws' := [(h, oX0 m1 m2 m3 mc sc tx nr ra ru dy wa se none), (m1, kcI cI 50 f1), (m2, kcI cI 72 f2), (m3, kcJ cJ 30 f3)]) [0, 1, 2, 3] rfl
    have hD9 := hD.sub (ws' := [(h, oX0 m1 m2 m3 mc sc tx nr ra ru dy wa se none), (m1, kcI cI 50 f1), (m2, kcI cI 72 f2), (m3, kcJ cJ 30 f3)]) [0, 1, 2, 3] (by decide) rfl
    exact W.zret (v := 1) hx hb hr (by decide) (fun t ht hW => ⟨⟨1, (), rfl, ⟨(kLet_eq (k2).symm (kif_f (by decide) rfl)), (Or.inr rfl)⟩, by rw [ht]; exact hP9, va_K.moved hW.alike hK, hD9⟩, hS.F ht⟩) hS.2.2 dX0_forbids_13

def kwX0_priceOf : List Cond := .code yX0_priceOf cX0_priceOf 3 (some .int) :: kG
theorem hdX0_priceOf : yX0_priceOf.cls ≠ "java/lang/invoke/MethodHandle" ∧ yX0_priceOf.cls ≠ "java/lang/invoke/VarHandle" ∧ (parseMethodDescriptor yX0_priceOf.desc).map (fun d => d.parameters.length) = some 2 := by decide +kernel
theorem dX0_priceOf_0 : decode cX0_priceOf 0 = .ok (.aload_n 0, 1) := by decide +kernel
theorem dX0_priceOf_1 : decode cX0_priceOf 1 = .ok (.getfield 50, 3) := by decide +kernel
theorem dX0_priceOf_4 : decode cX0_priceOf 4 = .ok (.ifnonnull 5, 3) := by decide +kernel
theorem dX0_priceOf_7 : decode cX0_priceOf 7 = .ok (.iconst 0, 1) := by decide +kernel
theorem dX0_priceOf_8 : decode cX0_priceOf 8 = .ok (.ireturn, 1) := by decide +kernel
set_option maxHeartbeats 4000000 in
set_option maxRecDepth 100000 in
/-- Camp.priceOf (n) -/
theorem z_Camp_priceOf_n (l : Launch) (D : va_G) (cI cJ cB cC : ClassId) (h : Nat) (m1 : Nat) (m2 : Nat) (m3 : Nat) (mc : Int32) (sc : Int32) (tx : Int32) (nr : Int32) (ra : Int32) (ru : Int32) (dy : Int32) (wa : Int32) (se : Int32) (f1 : Nat → Int32) (f2 : Nat → Int32) (f3 : Nat → Int64) (a : Int32) (b : Int32) (sz : Nat)  : Met l yX0_priceOf kwX0_priceOf ({ frames := 0, cells := 0, slots := 0, locals := 0 } : Room) (kPre D (kT cI cJ cB cC) sz [(h, oX0 m1 m2 m3 mc sc tx nr ra ru dy wa se none), (m1, kcI cI 50 f1), (m2, kcI cI 72 f2), (m3, kcJ cJ 30 f3)] [.ref h, .int a, .int b]) (va_Qi (fun (r : Int32) (_ : Unit) => Rg r 0 0 ∧ F_z_Camp_priceOf_n = ((r : Int32).toInt)) (fun (_ : Unit) (t : State) => kB D (kT cI cJ cB cC) (va_A [(h, oX0 m1 m2 m3 mc sc tx nr ra ru dy wa se none), (m1, kcI cI 50 f1), (m2, kcI cI 72 f2), (m3, kcJ cJ 30 f3)] sz) [(h, oX0 m1 m2 m3 mc sc tx nr ra ru dy wa se none), (m1, kcI cI 50 f1), (m2, kcI cI 72 f2), (m3, kcJ cJ 30 f3)] t) (va_A [(h, oX0 m1 m2 m3 mc sc tx nr ra ru dy wa se none), (m1, kcI cI 50 f1), (m2, kcI cI 72 f2), (m3, kcJ cJ 30 f3)] sz)) 0 0 (va_A [(h, oX0 m1 m2 m3 mc sc tx nr ra ru dy wa se none), (m1, kcI cI 50 f1), (m2, kcI cI 72 f2), (m3, kcJ cJ 30 f3)] sz) := by
  refine Met.ofW (cc := cX0_priceOf) (maxL := 3) (ret := (some .int)) (by decide) rfl ?_
  intro p e s m args below meth c s₁ B hml hv
  obtain ⟨rfl, hsz, hN, hE, hP, hK, hD0⟩ := hv
  have hx := B.exec
  have hb := B.bytes
  have hr := B.returns
  have hts := fun (w : Cond) (h : w ∈ kG) => atoms_spec (ws := kwX0_priceOf) B.pre w (List.mem_cons_of_mem _ h)
  have hown : s.vm.findClass RX0 = some m.cls := findClass_of_methodNamed B.named
  subst hsz
  have hD := hD0.self (sz := s.heap.size)
  generalize hAe : va_A [(h, oX0 m1 m2 m3 mc sc tx nr ra ru dy wa se none), (m1, kcI cI 50 f1), (m2, kcI cI 72 f2), (m3, kcJ cJ 30 f3)] s.heap.size = A at hD hE ⊢
  have hA : ∀ q : Nat, s.heap.size ≤ q → A q := fun q h => by rw [← hAe]; exact Or.inr h
  have hl := lv_entry ([.ref h, .int a, .int b]) (n := 3) (Nat.le_of_ble_eq_true rfl)
  rw [lg_entry_eq]
  generalize (lg_sl ([.ref h, .int a, .int b]) ++ List.replicate (3 - (lg_sl ([.ref h, .int a, .int b])).length) Slot.unset).toArray = ls at hl ⊢
  have hl : lv_has ls 3 [(0, .ref h), (1, .int a), (2, .int b)] := hl
  obtain ⟨H, hH0⟩ : ∃ H, H = s.heap := ⟨_, rfl⟩
  have hS : va_S A s.heap H [] := by rw [hH0]; exact va_S.rf
  have hP : va_P D vwCl [(h, oX0 m1 m2 m3 mc sc tx nr ra ru dy wa se none), (m1, kcI cI 50 f1), (m2, kcI cI 72 f2), (m3, kcJ cJ 30 f3)] H := by rw [hH0]; exact hP
  refine kHeap hH0 ?_
  clear hH0
  refine lv_aload_n hx hb dX0_priceOf_0 rfl (lv_at hl 0 rfl) ?_
  refine va_get (D := D) (ci := 0) (v := .null) (C := RX0) (T := TX0) (N := 13) hx hb hts iG_X0 hown hK hP 0 rfl rfl 12 (by decide) (hts _ w2_14) (fun _ h9 => h9) rfl dX0_priceOf_1 ?_
  refine lv_ifnonnullN hx hb dX0_priceOf_4 ?_
  refine lv_iconst (v := 0) hx hb dX0_priceOf_7 (by decide) ?_
  have hP9 := hP.sub (ws' := [(h, oX0 m1 m2 m3 mc sc tx nr ra ru dy wa se none), (m1, kcI cI 50 f1), (m2, kcI cI 72 f2), (m3, kcJ cJ 30 f3)]) [0, 1, 2, 3] rfl
  have hD9 := hD.sub (ws' := [(h, oX0 m1 m2 m3 mc sc tx nr ra ru dy wa se none), (m1, kcI cI 50 f1), (m2, kcI cI 72 f2), (m3, kcJ cJ 30 f3)]) [0, 1, 2, 3] (by decide) rfl
  exact W.iret (v := 0) hx hb hr (fun t ht hW => ⟨⟨0, (), rfl, ⟨(rg_lit (n := 0) (by decide)), rfl⟩, by rw [ht]; exact hP9, va_K.moved hW.alike hK, hD9⟩, hS.F ht⟩) hS.2.2 dX0_priceOf_8

def kwX0_canHave : List Cond := .code yX0_canHave cX0_canHave 3 (some .boolean) :: kG
theorem hdX0_canHave : yX0_canHave.cls ≠ "java/lang/invoke/MethodHandle" ∧ yX0_canHave.cls ≠ "java/lang/invoke/VarHandle" ∧ (parseMethodDescriptor yX0_canHave.desc).map (fun d => d.parameters.length) = some 2 := by decide +kernel
theorem gX0_canHave_X0_forbids : GoodIn kG (wsV RX0 158 RX0 yX0_forbids kwX0_forbids) := gK w45_6 (gK w28_23 (gK w29_0 (gK w0_19 (gK w29_1 gGG))))
theorem gX0_canHave_X0_isInChest : GoodIn kG (wsV RX0 155 RX0 yX0_isInChest kwX0_isInChest) := gK w45_5 (gK w15_7 (gK w15_8 (gK w0_19 (gK w15_9 gGG))))
theorem dX0_canHave_0 : decode cX0_canHave 0 = .ok (.aload_n 0, 1) := by decide +kernel
theorem dX0_canHave_1 : decode cX0_canHave 1 = .ok (.iload_n 2, 1) := by decide +kernel
theorem dX0_canHave_2 : decode cX0_canHave 2 = .ok (.invokevirtual 155, 3) := by decide +kernel
theorem dX0_canHave_5 : decode cX0_canHave 5 = .ok (.ifCond .eq 16, 3) := by decide +kernel
theorem dX0_canHave_8 : decode cX0_canHave 8 = .ok (.aload_n 0, 1) := by decide +kernel
theorem dX0_canHave_9 : decode cX0_canHave 9 = .ok (.iload_n 1, 1) := by decide +kernel
theorem dX0_canHave_10 : decode cX0_canHave 10 = .ok (.iload_n 2, 1) := by decide +kernel
theorem dX0_canHave_11 : decode cX0_canHave 11 = .ok (.invokevirtual 158, 3) := by decide +kernel
theorem dX0_canHave_14 : decode cX0_canHave 14 = .ok (.ifCond .ne 7, 3) := by decide +kernel
theorem dX0_canHave_17 : decode cX0_canHave 17 = .ok (.iconst 1, 1) := by decide +kernel
theorem dX0_canHave_18 : decode cX0_canHave 18 = .ok (.goto 4, 3) := by decide +kernel
theorem dX0_canHave_21 : decode cX0_canHave 21 = .ok (.iconst 0, 1) := by decide +kernel
theorem dX0_canHave_22 : decode cX0_canHave 22 = .ok (.ireturn, 1) := by decide +kernel
set_option maxHeartbeats 4000000 in
set_option maxRecDepth 100000 in
/-- Camp.canHave (n) -/
theorem z_Camp_canHave_n (l : Launch) (D : va_G) (cI cJ cB cC : ClassId) (h : Nat) (m1 : Nat) (m2 : Nat) (m3 : Nat) (mc : Int32) (sc : Int32) (tx : Int32) (nr : Int32) (ra : Int32) (ru : Int32) (dy : Int32) (wa : Int32) (se : Int32) (f1 : Nat → Int32) (f2 : Nat → Int32) (f3 : Nat → Int64) (a : Int32) (b : Int32) (sz : Nat)  : Met l yX0_canHave kwX0_canHave ({ frames := 4, cells := 0, slots := 0, locals := 90 } : Room) (kPre D (kT cI cJ cB cC) sz [(h, oX0 m1 m2 m3 mc sc tx nr ra ru dy wa se none), (m1, kcI cI 50 f1), (m2, kcI cI 72 f2), (m3, kcJ cJ 30 f3)] [.ref h, .int a, .int b]) (va_Qi (fun (r : Int32) (_ : Unit) => F_z_Camp_canHave_n (sc : Int32).toInt (nr : Int32).toInt (gT f1) (gT f2) f3 (a : Int32).toInt (b : Int32).toInt = ((r : Int32).toInt) ∧ ((r = 0) ∨ (r = 1))) (fun (_ : Unit) (t : State) => kB D (kT cI cJ cB cC) (va_A [(h, oX0 m1 m2 m3 mc sc tx nr ra ru dy wa se none), (m1, kcI cI 50 f1), (m2, kcI cI 72 f2), (m3, kcJ cJ 30 f3)] sz) [(h, oX0 m1 m2 m3 mc sc tx nr ra ru dy wa se none), (m1, kcI cI 50 f1), (m2, kcI cI 72 f2), (m3, kcJ cJ 30 f3)] t) (va_A [(h, oX0 m1 m2 m3 mc sc tx nr ra ru dy wa se none), (m1, kcI cI 50 f1), (m2, kcI cI 72 f2), (m3, kcJ cJ 30 f3)] sz)) 0 0 (va_A [(h, oX0 m1 m2 m3 mc sc tx nr ra ru dy wa se none), (m1, kcI cI 50 f1), (m2, kcI cI 72 f2), (m3, kcJ cJ 30 f3)] sz) := by
  refine Met.ofW (cc := cX0_canHave) (maxL := 3) (ret := (some .boolean)) (by decide) rfl ?_
  intro p e s m args below meth c s₁ B hml hv
  obtain ⟨rfl, hsz, hN, hE, hP, hK, hD0⟩ := hv
  have hx := B.exec
  have hb := B.bytes
  have hr := B.returns
  have hts := fun (w : Cond) (h : w ∈ kG) => atoms_spec (ws := kwX0_canHave) B.pre w (List.mem_cons_of_mem _ h)
  have hown : s.vm.findClass RX0 = some m.cls := findClass_of_methodNamed B.named
  subst hsz
  have hD := hD0.self (sz := s.heap.size)
  generalize hAe : va_A [(h, oX0 m1 m2 m3 mc sc tx nr ra ru dy wa se none), (m1, kcI cI 50 f1), (m2, kcI cI 72 f2), (m3, kcJ cJ 30 f3)] s.heap.size = A at hD hE ⊢
  have hA : ∀ q : Nat, s.heap.size ≤ q → A q := fun q h => by rw [← hAe]; exact Or.inr h
  have hl := lv_entry ([.ref h, .int a, .int b]) (n := 3) (Nat.le_of_ble_eq_true rfl)
  rw [lg_entry_eq]
  generalize (lg_sl ([.ref h, .int a, .int b]) ++ List.replicate (3 - (lg_sl ([.ref h, .int a, .int b])).length) Slot.unset).toArray = ls at hl ⊢
  have hl : lv_has ls 3 [(0, .ref h), (1, .int a), (2, .int b)] := hl
  obtain ⟨H, hH0⟩ : ∃ H, H = s.heap := ⟨_, rfl⟩
  have hS : va_S A s.heap H [] := by rw [hH0]; exact va_S.rf
  have hP : va_P D vwCl [(h, oX0 m1 m2 m3 mc sc tx nr ra ru dy wa se none), (m1, kcI cI 50 f1), (m2, kcI cI 72 f2), (m3, kcJ cJ 30 f3)] H := by rw [hH0]; exact hP
  refine kHeap hH0 ?_
  clear hH0
  refine lv_aload_n hx hb dX0_canHave_0 rfl (lv_at hl 0 rfl) ?_
  refine lv_iload_n hx hb dX0_canHave_1 rfl (lv_at hl 2 rfl) ?_
  refine kpurei (wc := [(h, oX0 m1 m2 m3 mc sc tx nr ra ru dy wa se none), (m1, kcI cI 50 f1), (m2, kcI cI 72 f2), (m3, kcJ cJ 30 f3)]) hP hD hS hA [0, 1, 2, 3] rfl (by decide) (fun hPc hDc hFc => va_runV (As := [.int b]) (rest := []) ⟨hx, hb, hml, hown, hts⟩ (z_Camp_isInChest l D cI cJ cB cC h m1 m2 m3 mc sc tx nr ra ru dy wa se none f1 f2 f3 b H.size) (cwV 1 hts gX0_canHave_X0_isInChest rfl rfl rfl ⟨rfl, hdX0_isInChest⟩ ⟨Nat.le_of_ble_eq_true rfl, Nat.le_of_ble_eq_true rfl⟩) ⟨kBlind, va_recv hK hPc (ci := 0) (q0 := 0) rfl rfl, fun U hU hW => ⟨rfl, by rw [hU], hN.warm hW, hE.pass hS hFc hW hU, by rw [hU]; exact hPc, va_K.moved hW.alike hK, hDc⟩⟩ rfl rfl hl.1 rfl (lv_room (Nat.le_of_ble_eq_true rfl)) dX0_canHave_2 ⟨Nat.le_of_ble_eq_true rfl, Nat.le_of_ble_eq_true rfl⟩) (fun r1 u H locs hw hP hS => ?_)
  obtain ⟨k2, hw⟩ := hw
  rcases hw with rfl | rfl
  · skip
    refine lv_if_eq (tgt := 21) hx hb dX0_canHave_5 (by decide) (fun _ => ?_) (fun c5 => absurd (by decide) c5)
    refine lv_iconst (v := 0) hx hb dX0_canHave_21 (by decide) ?_
    have hP9 := hP.sub (ws' := [(h, oX0 m1 m2 m3 mc sc tx nr ra ru dy wa se none), (m1, kcI cI 50 f1), (m2, kcI cI 72 f2), (m3, kcJ cJ 30 f3)]) [0, 1, 2, 3] rfl
    have hD9 := hD.sub (ws' := [(h, oX0 m1 m2 m3 mc sc tx nr ra ru dy wa se none), (m1, kcI cI 50 f1), (m2, kcI cI 72 f2), (m3, kcJ cJ 30 f3)]) [0, 1, 2, 3] (by decide) rfl
    exact W.zret (v := 0) hx hb hr (by decide) (fun t ht hW => ⟨⟨0, (), rfl, ⟨(kLet_eq (k2).symm (kif_t rfl rfl)), (Or.inl rfl)⟩, by rw [ht]; exact hP9, va_K.moved hW.alike hK, hD9⟩, hS.F ht⟩) hS.2.2 dX0_canHave_22
  · skip
    refine lv_if_eq (tgt := 21) hx hb dX0_canHave_5 (by decide) (fun c12 => absurd c12 (by decide)) (fun _ => ?_)
    refine lv_aload_n hx hb dX0_canHave_8 rfl (lv_at hl 0 rfl) ?_
    refine lv_iload_n hx hb dX0_canHave_9 rfl (lv_at hl 1 rfl) ?_
    refine lv_iload_n hx hb dX0_canHave_10 rfl (lv_at hl 2 rfl) ?_
    refine kpurei (wc := [(h, oX0 m1 m2 m3 mc sc tx nr ra ru dy wa se none), (m1, kcI cI 50 f1), (m2, kcI cI 72 f2), (m3, kcJ cJ 30 f3)]) hP hD hS hA [0, 1, 2, 3] rfl (by decide) (fun hPc hDc hFc => va_runV (As := [.int a, .int b]) (rest := []) ⟨hx, hb, hml, hown, hts⟩ (z_Camp_forbids_n l D cI cJ cB cC h m1 m2 m3 mc sc tx nr ra ru dy wa se f1 f2 f3 a b H.size) (cwV 2 hts gX0_canHave_X0_forbids rfl rfl rfl ⟨rfl, hdX0_forbids⟩ ⟨Nat.le_of_ble_eq_true rfl, Nat.le_of_ble_eq_true rfl⟩) ⟨kBlind, va_recv hK hPc (ci := 0) (q0 := 0) rfl rfl, fun U hU hW => ⟨rfl, by rw [hU], hN.warm hW, hE.pass hS hFc hW hU, by rw [hU]; exact hPc, va_K.moved hW.alike hK, hDc⟩⟩ rfl rfl hl.1 rfl (lv_room (Nat.le_of_ble_eq_true rfl)) dX0_canHave_11 ⟨Nat.le_of_ble_eq_true rfl, Nat.le_of_ble_eq_true rfl⟩) (fun r13 u H locs hw hP hS => ?_)
    obtain ⟨k14, hw⟩ := hw
    rcases hw with rfl | rfl
    · skip
      refine lv_if_ne (tgt := 21) hx hb dX0_canHave_14 (by decide) (fun c16 => absurd (by decide) c16) (fun _ => ?_)
      refine lv_iconst (v := 1) hx hb dX0_canHave_17 (by decide) ?_
      refine lv_goto (tgt := 22) hx hb dX0_canHave_18 (by decide) ?_
      have hP9 := hP.sub (ws' := [(h, oX0 m1 m2 m3 mc sc tx nr ra ru dy wa se none), (m1, kcI cI 50 f1), (m2, kcI cI 72 f2), (m3, kcJ cJ 30 f3)]) [0, 1, 2, 3] rfl
      have hD9 := hD.sub (ws' := [(h, oX0 m1 m2 m3 mc sc tx nr ra ru dy wa se none), (m1, kcI cI 50 f1), (m2, kcI cI 72 f2), (m3, kcJ cJ 30 f3)]) [0, 1, 2, 3] (by decide) rfl
      exact W.zret (v := 1) hx hb hr (by decide) (fun t ht hW => ⟨⟨1, (), rfl, ⟨(kLet_eq (k2).symm (kif_f (by decide) (kLet_eq (k14).symm (kif_t rfl rfl)))), (Or.inr rfl)⟩, by rw [ht]; exact hP9, va_K.moved hW.alike hK, hD9⟩, hS.F ht⟩) hS.2.2 dX0_canHave_22
    · skip
      refine lv_if_ne (tgt := 21) hx hb dX0_canHave_14 (by decide) (fun _ => ?_) (fun c17 => absurd c17 (by decide))
      refine lv_iconst (v := 0) hx hb dX0_canHave_21 (by decide) ?_
      have hP9 := hP.sub (ws' := [(h, oX0 m1 m2 m3 mc sc tx nr ra ru dy wa se none), (m1, kcI cI 50 f1), (m2, kcI cI 72 f2), (m3, kcJ cJ 30 f3)]) [0, 1, 2, 3] rfl
      have hD9 := hD.sub (ws' := [(h, oX0 m1 m2 m3 mc sc tx nr ra ru dy wa se none), (m1, kcI cI 50 f1), (m2, kcI cI 72 f2), (m3, kcJ cJ 30 f3)]) [0, 1, 2, 3] (by decide) rfl
      exact W.zret (v := 0) hx hb hr (by decide) (fun t ht hW => ⟨⟨0, (), rfl, ⟨(kLet_eq (k2).symm (kif_f (by decide) (kLet_eq (k14).symm (kif_f (by decide) rfl)))), (Or.inl rfl)⟩, by rw [ht]; exact hP9, va_K.moved hW.alike hK, hD9⟩, hS.F ht⟩) hS.2.2 dX0_canHave_22

