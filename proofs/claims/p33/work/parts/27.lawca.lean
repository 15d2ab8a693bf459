def kwX0_tellLaw : List Cond := .code yX0_tellLaw cX0_tellLaw 4 none :: kG
theorem hdX0_tellLaw : yX0_tellLaw.cls ≠ "java/lang/invoke/MethodHandle" ∧ yX0_tellLaw.cls ≠ "java/lang/invoke/VarHandle" ∧ (parseMethodDescriptor yX0_tellLaw.desc).map (fun d => d.parameters.length) = some 3 := by decide +kernel
theorem gX0_tellLaw_X0_isLastNeighbour : GoodIn kG (wsV RX0 126 RX0 yX0_isLastNeighbour kwX0_isLastNeighbour) := gK w29_2 (gK w29_3 (gK w29_4 (gK w0_19 (gK w29_5 gGG))))
theorem gX0_tellLaw_X0_lastOf : GoodIn kG (wsV RX0 145 RX0 yX0_lastOf kwX0_lastOf) := gK w29_13 (gK w27_23 (gK w28_0 (gK w0_19 (gK w28_1 gGG))))
theorem gX0_tellLaw_X0_ofMan : GoodIn kG (wsV RX0 71 RX0 yX0_ofMan kwX0_ofMan) := gK w15_0 (gK w15_1 (gK w15_2 (gK w0_19 (gK w15_3 gGG))))
theorem gX0_tellLaw_X0_ofShirt : GoodIn kG (wsV RX0 75 RX0 yX0_ofShirt kwX0_ofShirt) := gK w15_10 (gK w15_11 (gK w15_12 (gK w0_19 (gK w15_13 gGG))))
theorem gX0_tellLaw_X4_tellWhether_n148 : GoodIn kG (kwX4_tellWhether) := gK w29_16 gGG
theorem gX0_tellLaw_X4_tell_n142 : GoodIn kG (kwX4_tell) := gK w29_12 gGG
theorem dX0_tellLaw_0 : decode cX0_tellLaw 0 = .ok (.aload_n 1, 1) := by decide +kernel
theorem dX0_tellLaw_1 : decode cX0_tellLaw 1 = .ok (.sipush 1011, 3) := by decide +kernel
theorem dX0_tellLaw_4 : decode cX0_tellLaw 4 = .ok (.aload_n 0, 1) := by decide +kernel
theorem dX0_tellLaw_5 : decode cX0_tellLaw 5 = .ok (.iload_n 2, 1) := by decide +kernel
theorem dX0_tellLaw_6 : decode cX0_tellLaw 6 = .ok (.iconst 1, 1) := by decide +kernel
theorem dX0_tellLaw_7 : decode cX0_tellLaw 7 = .ok (.invokevirtual 71, 3) := by decide +kernel
theorem dX0_tellLaw_10 : decode cX0_tellLaw 10 = .ok (.invokevirtual 142, 3) := by decide +kernel
theorem dX0_tellLaw_13 : decode cX0_tellLaw 13 = .ok (.aload_n 1, 1) := by decide +kernel
theorem dX0_tellLaw_14 : decode cX0_tellLaw 14 = .ok (.sipush 1036, 3) := by decide +kernel
theorem dX0_tellLaw_17 : decode cX0_tellLaw 17 = .ok (.aload_n 0, 1) := by decide +kernel
theorem dX0_tellLaw_18 : decode cX0_tellLaw 18 = .ok (.iload_n 2, 1) := by decide +kernel
theorem dX0_tellLaw_19 : decode cX0_tellLaw 19 = .ok (.iconst 0, 1) := by decide +kernel
theorem dX0_tellLaw_20 : decode cX0_tellLaw 20 = .ok (.invokevirtual 71, 3) := by decide +kernel
theorem dX0_tellLaw_23 : decode cX0_tellLaw 23 = .ok (.invokevirtual 142, 3) := by decide +kernel
theorem dX0_tellLaw_26 : decode cX0_tellLaw 26 = .ok (.aload_n 1, 1) := by decide +kernel
theorem dX0_tellLaw_27 : decode cX0_tellLaw 27 = .ok (.sipush 1012, 3) := by decide +kernel
theorem dX0_tellLaw_30 : decode cX0_tellLaw 30 = .ok (.aload_n 0, 1) := by decide +kernel
theorem dX0_tellLaw_31 : decode cX0_tellLaw 31 = .ok (.iload_n 2, 1) := by decide +kernel
theorem dX0_tellLaw_32 : decode cX0_tellLaw 32 = .ok (.iconst 2, 1) := by decide +kernel
theorem dX0_tellLaw_33 : decode cX0_tellLaw 33 = .ok (.invokevirtual 71, 3) := by decide +kernel
theorem dX0_tellLaw_36 : decode cX0_tellLaw 36 = .ok (.invokevirtual 142, 3) := by decide +kernel
theorem dX0_tellLaw_39 : decode cX0_tellLaw 39 = .ok (.aload_n 1, 1) := by decide +kernel
theorem dX0_tellLaw_40 : decode cX0_tellLaw 40 = .ok (.sipush 1034, 3) := by decide +kernel
theorem dX0_tellLaw_43 : decode cX0_tellLaw 43 = .ok (.aload_n 0, 1) := by decide +kernel
theorem dX0_tellLaw_44 : decode cX0_tellLaw 44 = .ok (.iload_n 3, 1) := by decide +kernel
theorem dX0_tellLaw_45 : decode cX0_tellLaw 45 = .ok (.iconst 0, 1) := by decide +kernel
theorem dX0_tellLaw_46 : decode cX0_tellLaw 46 = .ok (.invokevirtual 75, 3) := by decide +kernel
theorem dX0_tellLaw_49 : decode cX0_tellLaw 49 = .ok (.invokevirtual 142, 3) := by decide +kernel
theorem dX0_tellLaw_52 : decode cX0_tellLaw 52 = .ok (.aload_n 1, 1) := by decide +kernel
theorem dX0_tellLaw_53 : decode cX0_tellLaw 53 = .ok (.sipush 1015, 3) := by decide +kernel
theorem dX0_tellLaw_56 : decode cX0_tellLaw 56 = .ok (.aload_n 0, 1) := by decide +kernel
theorem dX0_tellLaw_57 : decode cX0_tellLaw 57 = .ok (.iload_n 3, 1) := by decide +kernel
theorem dX0_tellLaw_58 : decode cX0_tellLaw 58 = .ok (.iconst 1, 1) := by decide +kernel
theorem dX0_tellLaw_59 : decode cX0_tellLaw 59 = .ok (.invokevirtual 75, 3) := by decide +kernel
theorem dX0_tellLaw_62 : decode cX0_tellLaw 62 = .ok (.invokevirtual 142, 3) := by decide +kernel
theorem dX0_tellLaw_65 : decode cX0_tellLaw 65 = .ok (.aload_n 1, 1) := by decide +kernel
theorem dX0_tellLaw_66 : decode cX0_tellLaw 66 = .ok (.sipush 1016, 3) := by decide +kernel
theorem dX0_tellLaw_69 : decode cX0_tellLaw 69 = .ok (.aload_n 0, 1) := by decide +kernel
theorem dX0_tellLaw_70 : decode cX0_tellLaw 70 = .ok (.iload_n 3, 1) := by decide +kernel
theorem dX0_tellLaw_71 : decode cX0_tellLaw 71 = .ok (.iconst 2, 1) := by decide +kernel
theorem dX0_tellLaw_72 : decode cX0_tellLaw 72 = .ok (.invokevirtual 75, 3) := by decide +kernel
theorem dX0_tellLaw_75 : decode cX0_tellLaw 75 = .ok (.invokevirtual 142, 3) := by decide +kernel
theorem dX0_tellLaw_78 : decode cX0_tellLaw 78 = .ok (.aload_n 1, 1) := by decide +kernel
theorem dX0_tellLaw_79 : decode cX0_tellLaw 79 = .ok (.sipush 1017, 3) := by decide +kernel
theorem dX0_tellLaw_82 : decode cX0_tellLaw 82 = .ok (.aload_n 0, 1) := by decide +kernel
theorem dX0_tellLaw_83 : decode cX0_tellLaw 83 = .ok (.iload_n 3, 1) := by decide +kernel
theorem dX0_tellLaw_84 : decode cX0_tellLaw 84 = .ok (.iconst 3, 1) := by decide +kernel
theorem dX0_tellLaw_85 : decode cX0_tellLaw 85 = .ok (.invokevirtual 75, 3) := by decide +kernel
theorem dX0_tellLaw_88 : decode cX0_tellLaw 88 = .ok (.invokevirtual 142, 3) := by decide +kernel
theorem dX0_tellLaw_91 : decode cX0_tellLaw 91 = .ok (.aload_n 1, 1) := by decide +kernel
theorem dX0_tellLaw_92 : decode cX0_tellLaw 92 = .ok (.sipush 1035, 3) := by decide +kernel
theorem dX0_tellLaw_95 : decode cX0_tellLaw 95 = .ok (.aload_n 0, 1) := by decide +kernel
theorem dX0_tellLaw_96 : decode cX0_tellLaw 96 = .ok (.iload_n 3, 1) := by decide +kernel
theorem dX0_tellLaw_97 : decode cX0_tellLaw 97 = .ok (.iconst 4, 1) := by decide +kernel
theorem dX0_tellLaw_98 : decode cX0_tellLaw 98 = .ok (.invokevirtual 75, 3) := by decide +kernel
theorem dX0_tellLaw_101 : decode cX0_tellLaw 101 = .ok (.invokevirtual 142, 3) := by decide +kernel
theorem dX0_tellLaw_104 : decode cX0_tellLaw 104 = .ok (.aload_n 1, 1) := by decide +kernel
theorem dX0_tellLaw_105 : decode cX0_tellLaw 105 = .ok (.sipush 1037, 3) := by decide +kernel
theorem dX0_tellLaw_108 : decode cX0_tellLaw 108 = .ok (.aload_n 0, 1) := by decide +kernel
theorem dX0_tellLaw_109 : decode cX0_tellLaw 109 = .ok (.getfield 44, 3) := by decide +kernel
theorem dX0_tellLaw_112 : decode cX0_tellLaw 112 = .ok (.invokevirtual 142, 3) := by decide +kernel
theorem dX0_tellLaw_115 : decode cX0_tellLaw 115 = .ok (.aload_n 1, 1) := by decide +kernel
theorem dX0_tellLaw_116 : decode cX0_tellLaw 116 = .ok (.sipush 1031, 3) := by decide +kernel
theorem dX0_tellLaw_119 : decode cX0_tellLaw 119 = .ok (.aload_n 0, 1) := by decide +kernel
theorem dX0_tellLaw_120 : decode cX0_tellLaw 120 = .ok (.iload_n 3, 1) := by decide +kernel
theorem dX0_tellLaw_121 : decode cX0_tellLaw 121 = .ok (.invokevirtual 145, 3) := by decide +kernel
theorem dX0_tellLaw_124 : decode cX0_tellLaw 124 = .ok (.iload_n 2, 1) := by decide +kernel
theorem dX0_tellLaw_125 : decode cX0_tellLaw 125 = .ok (.if_icmp .ne 7, 3) := by decide +kernel
theorem dX0_tellLaw_128 : decode cX0_tellLaw 128 = .ok (.iconst 1, 1) := by decide +kernel
theorem dX0_tellLaw_129 : decode cX0_tellLaw 129 = .ok (.goto 4, 3) := by decide +kernel
theorem dX0_tellLaw_132 : decode cX0_tellLaw 132 = .ok (.iconst 0, 1) := by decide +kernel
theorem dX0_tellLaw_133 : decode cX0_tellLaw 133 = .ok (.invokevirtual 148, 3) := by decide +kernel
theorem dX0_tellLaw_136 : decode cX0_tellLaw 136 = .ok (.aload_n 1, 1) := by decide +kernel
theorem dX0_tellLaw_137 : decode cX0_tellLaw 137 = .ok (.sipush 1032, 3) := by decide +kernel
theorem dX0_tellLaw_140 : decode cX0_tellLaw 140 = .ok (.aload_n 0, 1) := by decide +kernel
theorem dX0_tellLaw_141 : decode cX0_tellLaw 141 = .ok (.iload_n 2, 1) := by decide +kernel
theorem dX0_tellLaw_142 : decode cX0_tellLaw 142 = .ok (.iload_n 3, 1) := by decide +kernel
theorem dX0_tellLaw_143 : decode cX0_tellLaw 143 = .ok (.invokevirtual 126, 3) := by decide +kernel
theorem dX0_tellLaw_146 : decode cX0_tellLaw 146 = .ok (.invokevirtual 148, 3) := by decide +kernel
theorem dX0_tellLaw_149 : decode cX0_tellLaw 149 = .ok (.aload_n 1, 1) := by decide +kernel
theorem dX0_tellLaw_150 : decode cX0_tellLaw 150 = .ok (.sipush 1033, 3) := by decide +kernel
theorem dX0_tellLaw_153 : decode cX0_tellLaw 153 = .ok (.aload_n 0, 1) := by decide +kernel
theorem dX0_tellLaw_154 : decode cX0_tellLaw 154 = .ok (.iload_n 3, 1) := by decide +kernel
theorem dX0_tellLaw_155 : decode cX0_tellLaw 155 = .ok (.iconst 0, 1) := by decide +kernel
theorem dX0_tellLaw_156 : decode cX0_tellLaw 156 = .ok (.invokevirtual 75, 3) := by decide +kernel
theorem dX0_tellLaw_159 : decode cX0_tellLaw 159 = .ok (.aload_n 0, 1) := by decide +kernel
theorem dX0_tellLaw_160 : decode cX0_tellLaw 160 = .ok (.iload_n 2, 1) := by decide +kernel
theorem dX0_tellLaw_161 : decode cX0_tellLaw 161 = .ok (.iconst 3, 1) := by decide +kernel
theorem dX0_tellLaw_162 : decode cX0_tellLaw 162 = .ok (.invokevirtual 71, 3) := by decide +kernel
theorem dX0_tellLaw_165 : decode cX0_tellLaw 165 = .ok (.if_icmp .ne 7, 3) := by decide +kernel
theorem dX0_tellLaw_168 : decode cX0_tellLaw 168 = .ok (.iconst 1, 1) := by decide +kernel
theorem dX0_tellLaw_169 : decode cX0_tellLaw 169 = .ok (.goto 4, 3) := by decide +kernel
theorem dX0_tellLaw_172 : decode cX0_tellLaw 172 = .ok (.iconst 0, 1) := by decide +kernel
theorem dX0_tellLaw_173 : decode cX0_tellLaw 173 = .ok (.invokevirtual 148, 3) := by decide +kernel
theorem dX0_tellLaw_176 : decode cX0_tellLaw 176 = .ok (.return_, 1) := by decide +kernel
set_option maxHeartbeats 4000000 in
set_option maxRecDepth 100000 in
/-- Camp.tellLaw (s) -/
theorem z_Camp_tellLaw_s (l : Launch) (D : va_G) (cI cJ cB cC : ClassId) (h : Nat) (m1 : Nat) (m2 : Nat) (m3 : Nat) (mc : Int32) (sc : Int32) (tx : Int32) (nr : Int32) (ra : Int32) (ru : Int32) (dy : Int32) (wa : Int32) (se : Int32) (f1 : Nat → Int32) (f2 : Nat → Int32) (f3 : Nat → Int64) (l0 : Nat) (l1 : Nat) (l2 : Nat) (l3 : Nat) (l4 : Nat) (M1 : Nat) (M2 : Nat) (M3 : Nat) (y1_ : Nat → Int32) (y2_ : Nat → Int32) (y3_ : Nat → Int32) (y4_ : Nat → Int32) (a : Int32) (b : Int32) (sz : Nat)  : Met l yX0_tellLaw kwX0_tellLaw ({ frames := 3, cells := 0, slots := 0, locals := 68 } : Room) (kPre D (kT cI cJ cB cC) sz [(h, oX0 m1 m2 m3 mc sc tx nr ra ru dy wa se (some l0)), (m1, .inl (cI, 50, .inl f1)), (m2, .inl (cI, 72, .inl f2)), (m3, .inl (cJ, 30, .inr (.inl f3))), (l0, .inr (4, [.ref l1, .ref l2, .ref l3, .ref l4])), (l1, .inl (cI, M1, .inl y1_)), (l2, .inl (cI, M2, .inl y2_)), (l3, .inl (cI, M3, .inl y3_)), (l4, .inl (cI, 28, .inl y4_))] [.ref h, .ref l0, .int a, .int b]) (va_Qv (fun (f0_ : (Nat → Int32)) => True) (fun (f0_ : (Nat → Int32)) (t : State) => kB D (kT cI cJ cB cC) (va_A [(h, oX0 m1 m2 m3 mc sc tx nr ra ru dy wa se (some l0)), (m1, .inl (cI, 50, .inl f1)), (m2, .inl (cI, 72, .inl f2)), (m3, .inl (cJ, 30, .inr (.inl f3))), (l0, .inr (4, [.ref l1, .ref l2, .ref l3, .ref l4])), (l1, .inl (cI, M1, .inl y1_)), (l2, .inl (cI, M2, .inl y2_)), (l3, .inl (cI, M3, .inl y3_)), (l4, .inl (cI, 28, .inl y4_))] sz) [(h, oX0 m1 m2 m3 mc sc tx nr ra ru dy wa se (some l0)), (m1, .inl (cI, 50, .inl f1)), (m2, .inl (cI, 72, .inl f2)), (m3, .inl (cJ, 30, .inr (.inl f3))), (l0, .inr (4, [.ref l1, .ref l2, .ref l3, .ref l4])), (l1, .inl (cI, M1, .inl y1_)), (l2, .inl (cI, M2, .inl y2_)), (l3, .inl (cI, M3, .inl y3_)), (l4, .inl (cI, 28, .inl f0_))] t) (va_A [(h, oX0 m1 m2 m3 mc sc tx nr ra ru dy wa se (some l0)), (m1, .inl (cI, 50, .inl f1)), (m2, .inl (cI, 72, .inl f2)), (m3, .inl (cJ, 30, .inr (.inl f3))), (l0, .inr (4, [.ref l1, .ref l2, .ref l3, .ref l4])), (l1, .inl (cI, M1, .inl y1_)), (l2, .inl (cI, M2, .inl y2_)), (l3, .inl (cI, M3, .inl y3_)), (l4, .inl (cI, 28, .inl y4_))] sz)) 0 0 (va_A [(h, oX0 m1 m2 m3 mc sc tx nr ra ru dy wa se (some l0)), (m1, .inl (cI, 50, .inl f1)), (m2, .inl (cI, 72, .inl f2)), (m3, .inl (cJ, 30, .inr (.inl f3))), (l0, .inr (4, [.ref l1, .ref l2, .ref l3, .ref l4])), (l1, .inl (cI, M1, .inl y1_)), (l2, .inl (cI, M2, .inl y2_)), (l3, .inl (cI, M3, .inl y3_)), (l4, .inl (cI, 28, .inl y4_))] sz) := by
  refine Met.ofW (cc := cX0_tellLaw) (maxL := 4) (ret := none) (by decide) rfl ?_
  intro p e s m args below meth c s₁ B hml hv
  obtain ⟨rfl, hsz, hN, hE, hP, hK, hD0⟩ := hv
  have hx := B.exec
  have hb := B.bytes
  have hr := B.returns
  have hts := fun (w : Cond) (h : w ∈ kG) => atoms_spec (ws := kwX0_tellLaw) B.pre w (List.mem_cons_of_mem _ h)
  have hown : s.vm.findClass RX0 = some m.cls := findClass_of_methodNamed B.named
  subst hsz
  have hD := hD0.self (sz := s.heap.size)
  generalize hAe : va_A [(h, oX0 m1 m2 m3 mc sc tx nr ra ru dy wa se (some l0)), (m1, .inl (cI, 50, .inl f1)), (m2, .inl (cI, 72, .inl f2)), (m3, .inl (cJ, 30, .inr (.inl f3))), (l0, .inr (4, [.ref l1, .ref l2, .ref l3, .ref l4])), (l1, .inl (cI, M1, .inl y1_)), (l2, .inl (cI, M2, .inl y2_)), (l3, .inl (cI, M3, .inl y3_)), (l4, .inl (cI, 28, .inl y4_))] s.heap.size = A at hD hE ⊢
  have hA : ∀ q : Nat, s.heap.size ≤ q → A q := fun q h => by rw [← hAe]; exact Or.inr h
  have hl := lv_entry ([.ref h, .ref l0, .int a, .int b]) (n := 4) (Nat.le_of_ble_eq_true rfl)
  rw [lg_entry_eq]
  generalize (lg_sl ([.ref h, .ref l0, .int a, .int b]) ++ List.replicate (4 - (lg_sl ([.ref h, .ref l0, .int a, .int b])).length) Slot.unset).toArray = ls at hl ⊢
  have hl : lv_has ls 4 [(0, .ref h), (1, .ref l0), (2, .int a), (3, .int b)] := hl
  obtain ⟨H, hH0⟩ : ∃ H, H = s.heap := ⟨_, rfl⟩
  have hS : va_S A s.heap H [] := by rw [hH0]; exact va_S.rf
  have hP : va_P D vwCl [(h, oX0 m1 m2 m3 mc sc tx nr ra ru dy wa se (some l0)), (m1, .inl (cI, 50, .inl f1)), (m2, .inl (cI, 72, .inl f2)), (m3, .inl (cJ, 30, .inr (.inl f3))), (l0, .inr (4, [.ref l1, .ref l2, .ref l3, .ref l4])), (l1, .inl (cI, M1, .inl y1_)), (l2, .inl (cI, M2, .inl y2_)), (l3, .inl (cI, M3, .inl y3_)), (l4, .inl (cI, 28, .inl y4_))] H := by rw [hH0]; exact hP
  refine kHeap hH0 ?_
  clear hH0
  refine lv_aload_n hx hb dX0_tellLaw_0 rfl (lv_at hl 1 rfl) ?_
  refine lv_sipush (v := 1011) hx hb dX0_tellLaw_1 (by decide) ?_
  refine lv_aload_n hx hb dX0_tellLaw_4 rfl (lv_at hl 0 rfl) ?_
  refine lv_iload_n hx hb dX0_tellLaw_5 rfl (lv_at hl 2 rfl) ?_
  refine lv_iconst (v := 1) hx hb dX0_tellLaw_6 (by decide) ?_
  refine kpurei (wc := [(h, oX0 m1 m2 m3 mc sc tx nr ra ru dy wa se (some l0)), (m1, .inl (cI, 50, .inl f1)), (m2, .inl (cI, 72, .inl f2)), (m3, .inl (cJ, 30, .inr (.inl f3)))]) hP hD hS hA [0, 1, 2, 3] rfl (by decide) (fun hPc hDc hFc => va_runV (As := [.int a, .int 1]) (rest := [.int 1011, .ref l0]) ⟨hx, hb, hml, hown, hts⟩ (z_Camp_ofMan l D cI cJ cB cC h m1 m2 m3 mc sc tx nr ra ru dy wa se (some l0) f1 f2 f3 a 1 H.size) (cwV 2 hts gX0_tellLaw_X0_ofMan rfl rfl rfl ⟨rfl, hdX0_ofMan⟩ ⟨Nat.le_of_ble_eq_true rfl, Nat.le_of_ble_eq_true rfl⟩) ⟨kBlind, va_recv hK hPc (ci := 0) (q0 := 0) rfl rfl, fun U hU hW => ⟨rfl, by rw [hU], hN.warm hW, hE.pass hS hFc hW hU, by rw [hU]; exact hPc, va_K.moved hW.alike hK, hDc⟩⟩ rfl rfl hl.1 rfl (lv_room (Nat.le_of_ble_eq_true rfl)) dX0_tellLaw_7 ⟨Nat.le_of_ble_eq_true rfl, Nat.le_of_ble_eq_true rfl⟩) (fun r1 u H locs hw hP hS => ?_)
  refine kcallv (wc := [(l0, .inr (4, [.ref l1, .ref l2, .ref l3, .ref l4])), (l1, .inl (cI, M1, .inl y1_)), (l2, .inl (cI, M2, .inl y2_)), (l3, .inl (cI, M3, .inl y3_)), (l4, .inl (cI, 28, .inl y4_))]) (wr := [(h, oX0 m1 m2 m3 mc sc tx nr ra ru dy wa se (some l0)), (m1, .inl (cI, 50, .inl f1)), (m2, .inl (cI, 72, .inl f2)), (m3, .inl (cJ, 30, .inr (.inl f3)))]) hP hD hS hA [4, 5, 6, 7, 8] [0, 1, 2, 3] rfl rfl (by decide) (by decide) (by decide) (fun hPc hDc hFc => va_runVN (C := RX4) (As := [.int 1011, .int r1]) (rest := []) ⟨hx, hb, hml, hown, hts⟩ (z_Law_tell l D cI cJ cB cC l0 l1 l2 l3 l4 M1 M2 M3 y1_ y2_ y3_ y4_ 1011 r1 H.size) ⟨va_cnB 2 hts gX0_tellLaw_X4_tell_n142 rfl rfl rfl (nM_21 hN) (hts _ w24_8) hdX4_tell ⟨Nat.le_of_ble_eq_true rfl, Nat.le_of_ble_eq_true rfl⟩, hts (.instanceMethod yX4_tell) (by decide +kernel), hts (.selects RX4 yX4_tell yX4_tell) (by decide +kernel)⟩ ⟨kBlind, va_recv hK hPc (ci := 4) (q0 := 0) rfl rfl, fun U hU hW => ⟨rfl, by rw [hU], hN.warm hW, hE.pass hS hFc hW hU, by rw [hU]; exact hPc, va_K.moved hW.alike hK, hDc⟩⟩ rfl rfl hl.1 rfl (lv_room (Nat.le_of_ble_eq_true rfl)) dX0_tellLaw_10 ⟨Nat.le_of_ble_eq_true rfl, Nat.le_of_ble_eq_true rfl⟩) (fun u H locs hw hP hD hS => ?_)
  obtain ⟨g2, rfl⟩ : ∃ z, z = u := ⟨_, rfl⟩
  have hP : va_P D vwCl [(h, oX0 m1 m2 m3 mc sc tx nr ra ru dy wa se (some l0)), (m1, .inl (cI, 50, .inl f1)), (m2, .inl (cI, 72, .inl f2)), (m3, .inl (cJ, 30, .inr (.inl f3))), (l0, .inr (4, [.ref l1, .ref l2, .ref l3, .ref l4])), (l1, .inl (cI, M1, .inl y1_)), (l2, .inl (cI, M2, .inl y2_)), (l3, .inl (cI, M3, .inl y3_)), (l4, .inl (cI, 28, .inl g2))] H := hP
  have hD : va_D A [(h, oX0 m1 m2 m3 mc sc tx nr ra ru dy wa se (some l0)), (m1, .inl (cI, 50, .inl f1)), (m2, .inl (cI, 72, .inl f2)), (m3, .inl (cJ, 30, .inr (.inl f3))), (l0, .inr (4, [.ref l1, .ref l2, .ref l3, .ref l4])), (l1, .inl (cI, M1, .inl y1_)), (l2, .inl (cI, M2, .inl y2_)), (l3, .inl (cI, M3, .inl y3_)), (l4, .inl (cI, 28, .inl g2))] := hD
  refine lv_aload_n hx hb dX0_tellLaw_13 rfl (lv_at hl 1 rfl) ?_
  refine lv_sipush (v := 1036) hx hb dX0_tellLaw_14 (by decide) ?_
  refine lv_aload_n hx hb dX0_tellLaw_17 rfl (lv_at hl 0 rfl) ?_
  refine lv_iload_n hx hb dX0_tellLaw_18 rfl (lv_at hl 2 rfl) ?_
  refine lv_iconst (v := 0) hx hb dX0_tellLaw_19 (by decide) ?_
  refine kpurei (wc := [(h, oX0 m1 m2 m3 mc sc tx nr ra ru dy wa se (some l0)), (m1, .inl (cI, 50, .inl f1)), (m2, .inl (cI, 72, .inl f2)), (m3, .inl (cJ, 30, .inr (.inl f3)))]) hP hD hS hA [0, 1, 2, 3] rfl (by decide) (fun hPc hDc hFc => va_runV (As := [.int a, .int 0]) (rest := [.int 1036, .ref l0]) ⟨hx, hb, hml, hown, hts⟩ (z_Camp_ofMan l D cI cJ cB cC h m1 m2 m3 mc sc tx nr ra ru dy wa se (some l0) f1 f2 f3 a 0 H.size) (cwV 2 hts gX0_tellLaw_X0_ofMan rfl rfl rfl ⟨rfl, hdX0_ofMan⟩ ⟨Nat.le_of_ble_eq_true rfl, Nat.le_of_ble_eq_true rfl⟩) ⟨kBlind, va_recv hK hPc (ci := 0) (q0 := 0) rfl rfl, fun U hU hW => ⟨rfl, by rw [hU], hN.warm hW, hE.pass hS hFc hW hU, by rw [hU]; exact hPc, va_K.moved hW.alike hK, hDc⟩⟩ rfl rfl hl.1 rfl (lv_room (Nat.le_of_ble_eq_true rfl)) dX0_tellLaw_20 ⟨Nat.le_of_ble_eq_true rfl, Nat.le_of_ble_eq_true rfl⟩) (fun r3 u H locs hw hP hS => ?_)
  refine kcallv (wc := [(l0, .inr (4, [.ref l1, .ref l2, .ref l3, .ref l4])), (l1, .inl (cI, M1, .inl y1_)), (l2, .inl (cI, M2, .inl y2_)), (l3, .inl (cI, M3, .inl y3_)), (l4, .inl (cI, 28, .inl g2))]) (wr := [(h, oX0 m1 m2 m3 mc sc tx nr ra ru dy wa se (some l0)), (m1, .inl (cI, 50, .inl f1)), (m2, .inl (cI, 72, .inl f2)), (m3, .inl (cJ, 30, .inr (.inl f3)))]) hP hD hS hA [4, 5, 6, 7, 8] [0, 1, 2, 3] rfl rfl (by decide) (by decide) (by decide) (fun hPc hDc hFc => va_runVN (C := RX4) (As := [.int 1036, .int r3]) (rest := []) ⟨hx, hb, hml, hown, hts⟩ (z_Law_tell l D cI cJ cB cC l0 l1 l2 l3 l4 M1 M2 M3 y1_ y2_ y3_ g2 1036 r3 H.size) ⟨va_cnB 2 hts gX0_tellLaw_X4_tell_n142 rfl rfl rfl (nM_21 hN) (hts _ w24_8) hdX4_tell ⟨Nat.le_of_ble_eq_true rfl, Nat.le_of_ble_eq_true rfl⟩, hts (.instanceMethod yX4_tell) (by decide +kernel), hts (.selects RX4 yX4_tell yX4_tell) (by decide +kernel)⟩ ⟨kBlind, va_recv hK hPc (ci := 4) (q0 := 0) rfl rfl, fun U hU hW => ⟨rfl, by rw [hU], hN.warm hW, hE.pass hS hFc hW hU, by rw [hU]; exact hPc, va_K.moved hW.alike hK, hDc⟩⟩ rfl rfl hl.1 rfl (lv_room (Nat.le_of_ble_eq_true rfl)) dX0_tellLaw_23 ⟨Nat.le_of_ble_eq_true rfl, Nat.le_of_ble_eq_true rfl⟩) (fun u H locs hw hP hD hS => ?_)
  obtain ⟨g4, rfl⟩ : ∃ z, z = u := ⟨_, rfl⟩
  have hP : va_P D vwCl [(h, oX0 m1 m2 m3 mc sc tx nr ra ru dy wa se (some l0)), (m1, .inl (cI, 50, .inl f1)), (m2, .inl (cI, 72, .inl f2)), (m3, .inl (cJ, 30, .inr (.inl f3))), (l0, .inr (4, [.ref l1, .ref l2, .ref l3, .ref l4])), (l1, .inl (cI, M1, .inl y1_)), (l2, .inl (cI, M2, .inl y2_)), (l3, .inl (cI, M3, .inl y3_)), (l4, .inl (cI, 28, .inl g4))] H := hP
  have hD : va_D A [(h, oX0 m1 m2 m3 mc sc tx nr ra ru dy wa se (some l0)), (m1, .inl (cI, 50, .inl f1)), (m2, .inl (cI, 72, .inl f2)), (m3, .inl (cJ, 30, .inr (.inl f3))), (l0, .inr (4, [.ref l1, .ref l2, .ref l3, .ref l4])), (l1, .inl (cI, M1, .inl y1_)), (l2, .inl (cI, M2, .inl y2_)), (l3, .inl (cI, M3, .inl y3_)), (l4, .inl (cI, 28, .inl g4))] := hD
  refine lv_aload_n hx hb dX0_tellLaw_26 rfl (lv_at hl 1 rfl) ?_
  refine lv_sipush (v := 1012) hx hb dX0_tellLaw_27 (by decide) ?_
  refine lv_aload_n hx hb dX0_tellLaw_30 rfl (lv_at hl 0 rfl) ?_
  refine lv_iload_n hx hb dX0_tellLaw_31 rfl (lv_at hl 2 rfl) ?_
  refine lv_iconst (v := 2) hx hb dX0_tellLaw_32 (by decide) ?_
  refine kpurei (wc := [(h, oX0 m1 m2 m3 mc sc tx nr ra ru dy wa se (some l0)), (m1, .inl (cI, 50, .inl f1)), (m2, .inl (cI, 72, .inl f2)), (m3, .inl (cJ, 30, .inr (.inl f3)))]) hP hD hS hA [0, 1, 2, 3] rfl (by decide) (fun hPc hDc hFc => va_runV (As := [.int a, .int 2]) (rest := [.int 1012, .ref l0]) ⟨hx, hb, hml, hown, hts⟩ (z_Camp_ofMan l D cI cJ cB cC h m1 m2 m3 mc sc tx nr ra ru dy wa se (some l0) f1 f2 f3 a 2 H.size) (cwV 2 hts gX0_tellLaw_X0_ofMan rfl rfl rfl ⟨rfl, hdX0_ofMan⟩ ⟨Nat.le_of_ble_eq_true rfl, Nat.le_of_ble_eq_true rfl⟩) ⟨kBlind, va_recv hK hPc (ci := 0) (q0 := 0) rfl rfl, fun U hU hW => ⟨rfl, by rw [hU], hN.warm hW, hE.pass hS hFc hW hU, by rw [hU]; exact hPc, va_K.moved hW.alike hK, hDc⟩⟩ rfl rfl hl.1 rfl (lv_room (Nat.le_of_ble_eq_true rfl)) dX0_tellLaw_33 ⟨Nat.le_of_ble_eq_true rfl, Nat.le_of_ble_eq_true rfl⟩) (fun r5 u H locs hw hP hS => ?_)
  refine kcallv (wc := [(l0, .inr (4, [.ref l1, .ref l2, .ref l3, .ref l4])), (l1, .inl (cI, M1, .inl y1_)), (l2, .inl (cI, M2, .inl y2_)), (l3, .inl (cI, M3, .inl y3_)), (l4, .inl (cI, 28, .inl g4))]) (wr := [(h, oX0 m1 m2 m3 mc sc tx nr ra ru dy wa se (some l0)), (m1, .inl (cI, 50, .inl f1)), (m2, .inl (cI, 72, .inl f2)), (m3, .inl (cJ, 30, .inr (.inl f3)))]) hP hD hS hA [4, 5, 6, 7, 8] [0, 1, 2, 3] rfl rfl (by decide) (by decide) (by decide) (fun hPc hDc hFc => va_runVN (C := RX4) (As := [.int 1012, .int r5]) (rest := []) ⟨hx, hb, hml, hown, hts⟩ (z_Law_tell l D cI cJ cB cC l0 l1 l2 l3 l4 M1 M2 M3 y1_ y2_ y3_ g4 1012 r5 H.size) ⟨va_cnB 2 hts gX0_tellLaw_X4_tell_n142 rfl rfl rfl (nM_21 hN) (hts _ w24_8) hdX4_tell ⟨Nat.le_of_ble_eq_true rfl, Nat.le_of_ble_eq_true rfl⟩, hts (.instanceMethod yX4_tell) (by decide +kernel), hts (.selects RX4 yX4_tell yX4_tell) (by decide +kernel)⟩ ⟨kBlind, va_recv hK hPc (ci := 4) (q0 := 0) rfl rfl, fun U hU hW => ⟨rfl, by rw [hU], hN.warm hW, hE.pass hS hFc hW hU, by rw [hU]; exact hPc, va_K.moved hW.alike hK, hDc⟩⟩ rfl rfl hl.1 rfl (lv_room (Nat.le_of_ble_eq_true rfl)) dX0_tellLaw_36 ⟨Nat.le_of_ble_eq_true rfl, Nat.le_of_ble_eq_true rfl⟩) (fun u H locs hw hP hD hS => ?_)
  obtain ⟨g6, rfl⟩ : ∃ z, z = u := ⟨_, rfl⟩
  have hP : va_P D vwCl [(h, oX0 m1 m2 m3 mc sc tx nr ra ru dy wa se (some l0)), (m1, .inl (cI, 50, .inl f1)), (m2, .inl (cI, 72, .inl f2)), (m3, .inl (cJ, 30, .inr (.inl f3))), (l0, .inr (4, [.ref l1, .ref l2, .ref l3, .ref l4])), (l1, .inl (cI, M1, .inl y1_)), (l2, .inl (cI, M2, .inl y2_)), (l3, .inl (cI, M3, .inl y3_)), (l4, .inl (cI, 28, .inl g6))] H := hP
  have hD : va_D A [(h, oX0 m1 m2 m3 mc sc tx nr ra ru dy wa se (some l0)), (m1, .inl (cI, 50, .inl f1)), (m2, .inl (cI, 72, .inl f2)), (m3, .inl (cJ, 30, .inr (.inl f3))), (l0, .inr (4, [.ref l1, .ref l2, .ref l3, .ref l4])), (l1, .inl (cI, M1, .inl y1_)), (l2, .inl (cI, M2, .inl y2_)), (l3, .inl (cI, M3, .inl y3_)), (l4, .inl (cI, 28, .inl g6))] := hD
  refine lv_aload_n hx hb dX0_tellLaw_39 rfl (lv_at hl 1 rfl) ?_
  refine lv_sipush (v := 1034) hx hb dX0_tellLaw_40 (by decide) ?_
  refine lv_aload_n hx hb dX0_tellLaw_43 rfl (lv_at hl 0 rfl) ?_
  refine lv_iload_n hx hb dX0_tellLaw_44 rfl (lv_at hl 3 rfl) ?_
  refine lv_iconst (v := 0) hx hb dX0_tellLaw_45 (by decide) ?_
  refine kpurei (wc := [(h, oX0 m1 m2 m3 mc sc tx nr ra ru dy wa se (some l0)), (m1, .inl (cI, 50, .inl f1)), (m2, .inl (cI, 72, .inl f2)), (m3, .inl (cJ, 30, .inr (.inl f3)))]) hP hD hS hA [0, 1, 2, 3] rfl (by decide) (fun hPc hDc hFc => va_runV (As := [.int b, .int 0]) (rest := [.int 1034, .ref l0]) ⟨hx, hb, hml, hown, hts⟩ (z_Camp_ofShirt l D cI cJ cB cC h m1 m2 m3 mc sc tx nr ra ru dy wa se (some l0) f1 f2 f3 b 0 H.size) (cwV 2 hts gX0_tellLaw_X0_ofShirt rfl rfl rfl ⟨rfl, hdX0_ofShirt⟩ ⟨Nat.le_of_ble_eq_true rfl, Nat.le_of_ble_eq_true rfl⟩) ⟨kBlind, va_recv hK hPc (ci := 0) (q0 := 0) rfl rfl, fun U hU hW => ⟨rfl, by rw [hU], hN.warm hW, hE.pass hS hFc hW hU, by rw [hU]; exact hPc, va_K.moved hW.alike hK, hDc⟩⟩ rfl rfl hl.1 rfl (lv_room (Nat.le_of_ble_eq_true rfl)) dX0_tellLaw_46 ⟨Nat.le_of_ble_eq_true rfl, Nat.le_of_ble_eq_true rfl⟩) (fun r7 u H locs hw hP hS => ?_)
  refine kcallv (wc := [(l0, .inr (4, [.ref l1, .ref l2, .ref l3, .ref l4])), (l1, .inl (cI, M1, .inl y1_)), (l2, .inl (cI, M2, .inl y2_)), (l3, .inl (cI, M3, .inl y3_)), (l4, .inl (cI, 28, .inl g6))]) (wr := [(h, oX0 m1 m2 m3 mc sc tx nr ra ru dy wa se (some l0)), (m1, .inl (cI, 50, .inl f1)), (m2, .inl (cI, 72, .inl f2)), (m3, .inl (cJ, 30, .inr (.inl f3)))]) hP hD hS hA [4, 5, 6, 7, 8] [0, 1, 2, 3] rfl rfl (by decide) (by decide) (by decide) (fun hPc hDc hFc => va_runVN (C := RX4) (As := [.int 1034, .int r7]) (rest := []) ⟨hx, hb, hml, hown, hts⟩ (z_Law_tell l D cI cJ cB cC l0 l1 l2 l3 l4 M1 M2 M3 y1_ y2_ y3_ g6 1034 r7 H.size) ⟨va_cnB 2 hts gX0_tellLaw_X4_tell_n142 rfl rfl rfl (nM_21 hN) (hts _ w24_8) hdX4_tell ⟨Nat.le_of_ble_eq_true rfl, Nat.le_of_ble_eq_true rfl⟩, hts (.instanceMethod yX4_tell) (by decide +kernel), hts (.selects RX4 yX4_tell yX4_tell) (by decide +kernel)⟩ ⟨kBlind, va_recv hK hPc (ci := 4) (q0 := 0) rfl rfl, fun U hU hW => ⟨rfl, by rw [hU], hN.warm hW, hE.pass hS hFc hW hU, by rw [hU]; exact hPc, va_K.moved hW.alike hK, hDc⟩⟩ rfl rfl hl.1 rfl (lv_room (Nat.le_of_ble_eq_true rfl)) dX0_tellLaw_49 ⟨Nat.le_of_ble_eq_true rfl, Nat.le_of_ble_eq_true rfl⟩) (fun u H locs hw hP hD hS => ?_)
  obtain ⟨g8, rfl⟩ : ∃ z, z = u := ⟨_, rfl⟩
  have hP : va_P D vwCl [(h, oX0 m1 m2 m3 mc sc tx nr ra ru dy wa se (some l0)), (m1, .inl (cI, 50, .inl f1)), (m2, .inl (cI, 72, .inl f2)), (m3, .inl (cJ, 30, .inr (.inl f3))), (l0, .inr (4, [.ref l1, .ref l2, .ref l3, .ref l4])), (l1, .inl (cI, M1, .inl y1_)), (l2, .inl (cI, M2, .inl y2_)), (l3, .inl (cI, M3, .inl y3_)), (l4, .inl (cI, 28, .inl g8))] H := hP
  have hD : va_D A [(h, oX0 m1 m2 m3 mc sc tx nr ra ru dy wa se (some l0)), (m1, .inl (cI, 50, .inl f1)), (m2, .inl (cI, 72, .inl f2)), (m3, .inl (cJ, 30, .inr (.inl f3))), (l0, .inr (4, [.ref l1, .ref l2, .ref l3, .ref l4])), (l1, .inl (cI, M1, .inl y1_)), (l2, .inl (cI, M2, .inl y2_)), (l3, .inl (cI, M3, .inl y3_)), (l4, .inl (cI, 28, .inl g8))] := hD
  refine lv_aload_n hx hb dX0_tellLaw_52 rfl (lv_at hl 1 rfl) ?_
  refine lv_sipush (v := 1015) hx hb dX0_tellLaw_53 (by decide) ?_
  refine lv_aload_n hx hb dX0_tellLaw_56 rfl (lv_at hl 0 rfl) ?_
  refine lv_iload_n hx hb dX0_tellLaw_57 rfl (lv_at hl 3 rfl) ?_
  refine lv_iconst (v := 1) hx hb dX0_tellLaw_58 (by decide) ?_
  refine kpurei (wc := [(h, oX0 m1 m2 m3 mc sc tx nr ra ru dy wa se (some l0)), (m1, .inl (cI, 50, .inl f1)), (m2, .inl (cI, 72, .inl f2)), (m3, .inl (cJ, 30, .inr (.inl f3)))]) hP hD hS hA [0, 1, 2, 3] rfl (by decide) (fun hPc hDc hFc => va_runV (As := [.int b, .int 1]) (rest := [.int 1015, .ref l0]) ⟨hx, hb, hml, hown, hts⟩ (z_Camp_ofShirt l D cI cJ cB cC h m1 m2 m3 mc sc tx nr ra ru dy wa se (some l0) f1 f2 f3 b 1 H.size) (cwV 2 hts gX0_tellLaw_X0_ofShirt rfl rfl rfl ⟨rfl, hdX0_ofShirt⟩ ⟨Nat.le_of_ble_eq_true rfl, Nat.le_of_ble_eq_true rfl⟩) ⟨kBlind, va_recv hK hPc (ci := 0) (q0 := 0) rfl rfl, fun U hU hW => ⟨rfl, by rw [hU], hN.warm hW, hE.pass hS hFc hW hU, by rw [hU]; exact hPc, va_K.moved hW.alike hK, hDc⟩⟩ rfl rfl hl.1 rfl (lv_room (Nat.le_of_ble_eq_true rfl)) dX0_tellLaw_59 ⟨Nat.le_of_ble_eq_true rfl, Nat.le_of_ble_eq_true rfl⟩) (fun r9 u H locs hw hP hS => ?_)
  refine kcallv (wc := [(l0, .inr (4, [.ref l1, .ref l2, .ref l3, .ref l4])), (l1, .inl (cI, M1, .inl y1_)), (l2, .inl (cI, M2, .inl y2_)), (l3, .inl (cI, M3, .inl y3_)), (l4, .inl (cI, 28, .inl g8))]) (wr := [(h, oX0 m1 m2 m3 mc sc tx nr ra ru dy wa se (some l0)), (m1, .inl (cI, 50, .inl f1)), (m2, .inl (cI, 72, .inl f2)), (m3, .inl (cJ, 30, .inr (.inl f3)))]) hP hD hS hA [4, 5, 6, 7, 8] [0, 1, 2, 3] rfl rfl (by decide) (by decide) (by decide) (fun hPc hDc hFc => va_runVN (C := RX4) (As := [.int 1015, .int r9]) (rest := []) ⟨hx, hb, hml, hown, hts⟩ (z_Law_tell l D cI cJ cB cC l0 l1 l2 l3 l4 M1 M2 M3 y1_ y2_ y3_ g8 1015 r9 H.size) ⟨va_cnB 2 hts gX0_tellLaw_X4_tell_n142 rfl rfl rfl (nM_21 hN) (hts _ w24_8) hdX4_tell ⟨Nat.le_of_ble_eq_true rfl, Nat.le_of_ble_eq_true rfl⟩, hts (.instanceMethod yX4_tell) (by decide +kernel), hts (.selects RX4 yX4_tell yX4_tell) (by decide +kernel)⟩ ⟨kBlind, va_recv hK hPc (ci := 4) (q0 := 0) rfl rfl, fun U hU hW => ⟨rfl, by rw [hU], hN.warm hW, hE.pass hS hFc hW hU, by rw [hU]; exact hPc, va_K.moved hW.alike hK, hDc⟩⟩ rfl rfl hl.1 rfl (lv_room (Nat.le_of_ble_eq_true rfl)) dX0_tellLaw_62 ⟨Nat.le_of_ble_eq_true rfl, Nat.le_of_ble_eq_true rfl⟩) (fun u H locs hw hP hD hS => ?_)
  obtain ⟨g10, rfl⟩ : ∃ z, z = u := ⟨_, rfl⟩
  have hP : va_P D vwCl [(h, oX0 m1 m2 m3 mc sc tx nr ra ru dy wa se (some l0)), (m1, .inl (cI, 50, .inl f1)), (m2, .inl (cI, 72, .inl f2)), (m3, .inl (cJ, 30, .inr (.inl f3))), (l0, .inr (4, [.ref l1, .ref l2, .ref l3, .ref l4])), (l1, .inl (cI, M1, .inl y1_)), (l2, .inl (cI, M2, .inl y2_)), (l3, .inl (cI, M3, .inl y3_)), (l4, .inl (cI, 28, .inl g10))] H := hP
  have hD : va_D A [(h, oX0 m1 m2 m3 mc sc tx nr ra ru dy wa se (some l0)), (m1, .inl (cI, 50, .inl f1)), (m2, .inl (cI, 72, .inl f2)), (m3, .inl (cJ, 30, .inr (.inl f3))), (l0, .inr (4, [.ref l1, .ref l2, .ref l3, .ref l4])), (l1, .inl (cI, M1, .inl y1_)), (l2, .inl (cI, M2, .inl y2_)), (l3, .inl (cI, M3, .inl y3_)), (l4, .inl (cI, 28, .inl g10))] := hD
  refine lv_aload_n hx hb dX0_tellLaw_65 rfl (lv_at hl 1 rfl) ?_
  refine lv_sipush (v := 1016) hx hb dX0_tellLaw_66 (by decide) ?_
  refine lv_aload_n hx hb dX0_tellLaw_69 rfl (lv_at hl 0 rfl) ?_
  refine lv_iload_n hx hb dX0_tellLaw_70 rfl (lv_at hl 3 rfl) ?_
  refine lv_iconst (v := 2) hx hb dX0_tellLaw_71 (by decide) ?_
  refine kpurei (wc := [(h, oX0 m1 m2 m3 mc sc tx nr ra ru dy wa se (some l0)), (m1, .inl (cI, 50, .inl f1)), (m2, .inl (cI, 72, .inl f2)), (m3, .inl (cJ, 30, .inr (.inl f3)))]) hP hD hS hA [0, 1, 2, 3] rfl (by decide) (fun hPc hDc hFc => va_runV (As := [.int b, .int 2]) (rest := [.int 1016, .ref l0]) ⟨hx, hb, hml, hown, hts⟩ (z_Camp_ofShirt l D cI cJ cB cC h m1 m2 m3 mc sc tx nr ra ru dy wa se (some l0) f1 f2 f3 b 2 H.size) (cwV 2 hts gX0_tellLaw_X0_ofShirt rfl rfl rfl ⟨rfl, hdX0_ofShirt⟩ ⟨Nat.le_of_ble_eq_true rfl, Nat.le_of_ble_eq_true rfl⟩) ⟨kBlind, va_recv hK hPc (ci := 0) (q0 := 0) rfl rfl, fun U hU hW => ⟨rfl, by rw [hU], hN.warm hW, hE.pass hS hFc hW hU, by rw [hU]; exact hPc, va_K.moved hW.alike hK, hDc⟩⟩ rfl rfl hl.1 rfl (lv_room (Nat.le_of_ble_eq_true rfl)) dX0_tellLaw_72 ⟨Nat.le_of_ble_eq_true rfl, Nat.le_of_ble_eq_true rfl⟩) (fun r11 u H locs hw hP hS => ?_)
  refine kcallv (wc := [(l0, .inr (4, [.ref l1, .ref l2, .ref l3, .ref l4])), (l1, .inl (cI, M1, .inl y1_)), (l2, .inl (cI, M2, .inl y2_)), (l3, .inl (cI, M3, .inl y3_)), (l4, .inl (cI, 28, .inl g10))]) (wr := [(h, oX0 m1 m2 m3 mc sc tx nr ra ru dy wa se (some l0)), (m1, .inl (cI, 50, .inl f1)), (m2, .inl (cI, 72, .inl f2)), (m3, .inl (cJ, 30, .inr (.inl f3)))]) hP hD hS hA [4, 5, 6, 7, 8] [0, 1, 2, 3] rfl rfl (by decide) (by decide) (by decide) (fun hPc hDc hFc => va_runVN (C := RX4) (As := [.int 1016, .int r11]) (rest := []) ⟨hx, hb, hml, hown, hts⟩ (z_Law_tell l D cI cJ cB cC l0 l1 l2 l3 l4 M1 M2 M3 y1_ y2_ y3_ g10 1016 r11 H.size) ⟨va_cnB 2 hts gX0_tellLaw_X4_tell_n142 rfl rfl rfl (nM_21 hN) (hts _ w24_8) hdX4_tell ⟨Nat.le_of_ble_eq_true rfl, Nat.le_of_ble_eq_true rfl⟩, hts (.instanceMethod yX4_tell) (by decide +kernel), hts (.selects RX4 yX4_tell yX4_tell) (by decide +kernel)⟩ ⟨kBlind, va_recv hK hPc (ci := 4) (q0 := 0) rfl rfl, fun U hU hW => ⟨rfl, by rw [hU], hN.warm hW, hE.pass hS hFc hW hU, by rw [hU]; exact hPc, va_K.moved hW.alike hK, hDc⟩⟩ rfl rfl hl.1 rfl (lv_room (Nat.le_of_ble_eq_true rfl)) dX0_tellLaw_75 ⟨Nat.le_of_ble_eq_true rfl, Nat.le_of_ble_eq_true rfl⟩) (fun u H locs hw hP hD hS => ?_)
  obtain ⟨g12, rfl⟩ : ∃ z, z = u := ⟨_, rfl⟩
  have hP : va_P D vwCl [(h, oX0 m1 m2 m3 mc sc tx nr ra ru dy wa se (some l0)), (m1, .inl (cI, 50, .inl f1)), (m2, .inl (cI, 72, .inl f2)), (m3, .inl (cJ, 30, .inr (.inl f3))), (l0, .inr (4, [.ref l1, .ref l2, .ref l3, .ref l4])), (l1, .inl (cI, M1, .inl y1_)), (l2, .inl (cI, M2, .inl y2_)), (l3, .inl (cI, M3, .inl y3_)), (l4, .inl (cI, 28, .inl g12))] H := hP
  have hD : va_D A [(h, oX0 m1 m2 m3 mc sc tx nr ra ru dy wa se (some l0)), (m1, .inl (cI, 50, .inl f1)), (m2, .inl (cI, 72, .inl f2)), (m3, .inl (cJ, 30, .inr (.inl f3))), (l0, .inr (4, [.ref l1, .ref l2, .ref l3, .ref l4])), (l1, .inl (cI, M1, .inl y1_)), (l2, .inl (cI, M2, .inl y2_)), (l3, .inl (cI, M3, .inl y3_)), (l4, .inl (cI, 28, .inl g12))] := hD
  refine lv_aload_n hx hb dX0_tellLaw_78 rfl (lv_at hl 1 rfl) ?_
  refine lv_sipush (v := 1017) hx hb dX0_tellLaw_79 (by decide) ?_
  refine lv_aload_n hx hb dX0_tellLaw_82 rfl (lv_at hl 0 rfl) ?_
  refine lv_iload_n hx hb dX0_tellLaw_83 rfl (lv_at hl 3 rfl) ?_
  refine lv_iconst (v := 3) hx hb dX0_tellLaw_84 (by decide) ?_
  refine kpurei (wc := [(h, oX0 m1 m2 m3 mc sc tx nr ra ru dy wa se (some l0)), (m1, .inl (cI, 50, .inl f1)), (m2, .inl (cI, 72, .inl f2)), (m3, .inl (cJ, 30, .inr (.inl f3)))]) hP hD hS hA [0, 1, 2, 3] rfl (by decide) (fun hPc hDc hFc => va_runV (As := [.int b, .int 3]) (rest := [.int 1017, .ref l0]) ⟨hx, hb, hml, hown, hts⟩ (z_Camp_ofShirt l D cI cJ cB cC h m1 m2 m3 mc sc tx nr ra ru dy wa se (some l0) f1 f2 f3 b 3 H.size) (cwV 2 hts gX0_tellLaw_X0_ofShirt rfl rfl rfl ⟨rfl, hdX0_ofShirt⟩ ⟨Nat.le_of_ble_eq_true rfl, Nat.le_of_ble_eq_true rfl⟩) ⟨kBlind, va_recv hK hPc (ci := 0) (q0 := 0) rfl rfl, fun U hU hW => ⟨rfl, by rw [hU], hN.warm hW, hE.pass hS hFc hW hU, by rw [hU]; exact hPc, va_K.moved hW.alike hK, hDc⟩⟩ rfl rfl hl.1 rfl (lv_room (Nat.le_of_ble_eq_true rfl)) dX0_tellLaw_85 ⟨Nat.le_of_ble_eq_true rfl, Nat.le_of_ble_eq_true rfl⟩) (fun r13 u H locs hw hP hS => ?_)
  refine kcallv (wc := [(l0, .inr (4, [.ref l1, .ref l2, .ref l3, .ref l4])), (l1, .inl (cI, M1, .inl y1_)), (l2, .inl (cI, M2, .inl y2_)), (l3, .inl (cI, M3, .inl y3_)), (l4, .inl (cI, 28, .inl g12))]) (wr := [(h, oX0 m1 m2 m3 mc sc tx nr ra ru dy wa se (some l0)), (m1, .inl (cI, 50, .inl f1)), (m2, .inl (cI, 72, .inl f2)), (m3, .inl (cJ, 30, .inr (.inl f3)))]) hP hD hS hA [4, 5, 6, 7, 8] [0, 1, 2, 3] rfl rfl (by decide) (by decide) (by decide) (fun hPc hDc hFc => va_runVN (C := RX4) (As := [.int 1017, .int r13]) (rest := []) ⟨hx, hb, hml, hown, hts⟩ (z_Law_tell l D cI cJ cB cC l0 l1 l2 l3 l4 M1 M2 M3 y1_ y2_ y3_ g12 1017 r13 H.size) ⟨va_cnB 2 hts gX0_tellLaw_X4_tell_n142 rfl rfl rfl (nM_21 hN) (hts _ w24_8) hdX4_tell ⟨Nat.le_of_ble_eq_true rfl, Nat.le_of_ble_eq_true rfl⟩, hts (.instanceMethod yX4_tell) (by decide +kernel), hts (.selects RX4 yX4_tell yX4_tell) (by decide +kernel)⟩ ⟨kBlind, va_recv hK hPc (ci := 4) (q0 := 0) rfl rfl, fun U hU hW => ⟨rfl, by rw [hU], hN.warm hW, hE.pass hS hFc hW hU, by rw [hU]; exact hPc, va_K.moved hW.alike hK, hDc⟩⟩ rfl rfl hl.1 rfl (lv_room (Nat.le_of_ble_eq_true rfl)) dX0_tellLaw_88 ⟨Nat.le_of_ble_eq_true rfl, Nat.le_of_ble_eq_true rfl⟩) (fun u H locs hw hP hD hS => ?_)
  obtain ⟨g14, rfl⟩ : ∃ z, z = u := ⟨_, rfl⟩
  have hP : va_P D vwCl [(h, oX0 m1 m2 m3 mc sc tx nr ra ru dy wa se (some l0)), (m1, .inl (cI, 50, .inl f1)), (m2, .inl (cI, 72, .inl f2)), (m3, .inl (cJ, 30, .inr (.inl f3))), (l0, .inr (4, [.ref l1, .ref l2, .ref l3, .ref l4])), (l1, .inl (cI, M1, .inl y1_)), (l2, .inl (cI, M2, .inl y2_)), (l3, .inl (cI, M3, .inl y3_)), (l4, .inl (cI, 28, .inl g14))] H := hP
  have hD : va_D A [(h, oX0 m1 m2 m3 mc sc tx nr ra ru dy wa se (some l0)), (m1, .inl (cI, 50, .inl f1)), (m2, .inl (cI, 72, .inl f2)), (m3, .inl (cJ, 30, .inr (.inl f3))), (l0, .inr (4, [.ref l1, .ref l2, .ref l3, .ref l4])), (l1, .inl (cI, M1, .inl y1_)), (l2, .inl (cI, M2, .inl y2_)), (l3, .inl (cI, M3, .inl y3_)), (l4, .inl (cI, 28, .inl g14))] := hD
  refine lv_aload_n hx hb dX0_tellLaw_91 rfl (lv_at hl 1 rfl) ?_
  refine lv_sipush (v := 1035) hx hb dX0_tellLaw_92 (by decide) ?_
  refine lv_aload_n hx hb dX0_tellLaw_95 rfl (lv_at hl 0 rfl) ?_
  refine lv_iload_n hx hb dX0_tellLaw_96 rfl (lv_at hl 3 rfl) ?_
  refine lv_iconst (v := 4) hx hb dX0_tellLaw_97 (by decide) ?_
  refine kpurei (wc := [(h, oX0 m1 m2 m3 mc sc tx nr ra ru dy wa se (some l0)), (m1, .inl (cI, 50, .inl f1)), (m2, .inl (cI, 72, .inl f2)), (m3, .inl (cJ, 30, .inr (.inl f3)))]) hP hD hS hA [0, 1, 2, 3] rfl (by decide) (fun hPc hDc hFc => va_runV (As := [.int b, .int 4]) (rest := [.int 1035, .ref l0]) ⟨hx, hb, hml, hown, hts⟩ (z_Camp_ofShirt l D cI cJ cB cC h m1 m2 m3 mc sc tx nr ra ru dy wa se (some l0) f1 f2 f3 b 4 H.size) (cwV 2 hts gX0_tellLaw_X0_ofShirt rfl rfl rfl ⟨rfl, hdX0_ofShirt⟩ ⟨Nat.le_of_ble_eq_true rfl, Nat.le_of_ble_eq_true rfl⟩) ⟨kBlind, va_recv hK hPc (ci := 0) (q0 := 0) rfl rfl, fun U hU hW => ⟨rfl, by rw [hU], hN.warm hW, hE.pass hS hFc hW hU, by rw [hU]; exact hPc, va_K.moved hW.alike hK, hDc⟩⟩ rfl rfl hl.1 rfl (lv_room (Nat.le_of_ble_eq_true rfl)) dX0_tellLaw_98 ⟨Nat.le_of_ble_eq_true rfl, Nat.le_of_ble_eq_true rfl⟩) (fun r15 u H locs hw hP hS => ?_)
  refine kcallv (wc := [(l0, .inr (4, [.ref l1, .ref l2, .ref l3, .ref l4])), (l1, .inl (cI, M1, .inl y1_)), (l2, .inl (cI, M2, .inl y2_)), (l3, .inl (cI, M3, .inl y3_)), (l4, .inl (cI, 28, .inl g14))]) (wr := [(h, oX0 m1 m2 m3 mc sc tx nr ra ru dy wa se (some l0)), (m1, .inl (cI, 50, .inl f1)), (m2, .inl (cI, 72, .inl f2)), (m3, .inl (cJ, 30, .inr (.inl f3)))]) hP hD hS hA [4, 5, 6, 7, 8] [0, 1, 2, 3] rfl rfl (by decide) (by decide) (by decide) (fun hPc hDc hFc => va_runVN (C := RX4) (As := [.int 1035, .int r15]) (rest := []) ⟨hx, hb, hml, hown, hts⟩ (z_Law_tell l D cI cJ cB cC l0 l1 l2 l3 l4 M1 M2 M3 y1_ y2_ y3_ g14 1035 r15 H.size) ⟨va_cnB 2 hts gX0_tellLaw_X4_tell_n142 rfl rfl rfl (nM_21 hN) (hts _ w24_8) hdX4_tell ⟨Nat.le_of_ble_eq_true rfl, Nat.le_of_ble_eq_true rfl⟩, hts (.instanceMethod yX4_tell) (by decide +kernel), hts (.selects RX4 yX4_tell yX4_tell) (by decide +kernel)⟩ ⟨kBlind, va_recv hK hPc (ci := 4) (q0 := 0) rfl rfl, fun U hU hW => ⟨rfl, by rw [hU], hN.warm hW, hE.pass hS hFc hW hU, by rw [hU]; exact hPc, va_K.moved hW.alike hK, hDc⟩⟩ rfl rfl hl.1 rfl (lv_room (Nat.le_of_ble_eq_true rfl)) dX0_tellLaw_101 ⟨Nat.le_of_ble_eq_true rfl, Nat.le_of_ble_eq_true rfl⟩) (fun u H locs hw hP hD hS => ?_)
  obtain ⟨g16, rfl⟩ : ∃ z, z = u := ⟨_, rfl⟩
  have hP : va_P D vwCl [(h, oX0 m1 m2 m3 mc sc tx nr ra ru dy wa se (some l0)), (m1, .inl (cI, 50, .inl f1)), (m2, .inl (cI, 72, .inl f2)), (m3, .inl (cJ, 30, .inr (.inl f3))), (l0, .inr (4, [.ref l1, .ref l2, .ref l3, .ref l4])), (l1, .inl (cI, M1, .inl y1_)), (l2, .inl (cI, M2, .inl y2_)), (l3, .inl (cI, M3, .inl y3_)), (l4, .inl (cI, 28, .inl g16))] H := hP
  have hD : va_D A [(h, oX0 m1 m2 m3 mc sc tx nr ra ru dy wa se (some l0)), (m1, .inl (cI, 50, .inl f1)), (m2, .inl (cI, 72, .inl f2)), (m3, .inl (cJ, 30, .inr (.inl f3))), (l0, .inr (4, [.ref l1, .ref l2, .ref l3, .ref l4])), (l1, .inl (cI, M1, .inl y1_)), (l2, .inl (cI, M2, .inl y2_)), (l3, .inl (cI, M3, .inl y3_)), (l4, .inl (cI, 28, .inl g16))] := hD
  refine lv_aload_n hx hb dX0_tellLaw_104 rfl (lv_at hl 1 rfl) ?_
  refine lv_sipush (v := 1037) hx hb dX0_tellLaw_105 (by decide) ?_
  refine lv_aload_n hx hb dX0_tellLaw_108 rfl (lv_at hl 0 rfl) ?_
  refine va_get (D := D) (ci := 0) (v := .int wa) (C := RX0) (T := TX0) (N := 13) hx hb hts iG_X0 hown hK hP 0 rfl rfl 10 (by decide) (hts _ w2_12) (fun _ h9 => h9) rfl dX0_tellLaw_109 ?_
  refine kcallv (wc := [(l0, .inr (4, [.ref l1, .ref l2, .ref l3, .ref l4])), (l1, .inl (cI, M1, .inl y1_)), (l2, .inl (cI, M2, .inl y2_)), (l3, .inl (cI, M3, .inl y3_)), (l4, .inl (cI, 28, .inl g16))]) (wr := [(h, oX0 m1 m2 m3 mc sc tx nr ra ru dy wa se (some l0)), (m1, .inl (cI, 50, .inl f1)), (m2, .inl (cI, 72, .inl f2)), (m3, .inl (cJ, 30, .inr (.inl f3)))]) hP hD hS hA [4, 5, 6, 7, 8] [0, 1, 2, 3] rfl rfl (by decide) (by decide) (by decide) (fun hPc hDc hFc => va_runVN (C := RX4) (As := [.int 1037, .int wa]) (rest := []) ⟨hx, hb, hml, hown, hts⟩ (z_Law_tell l D cI cJ cB cC l0 l1 l2 l3 l4 M1 M2 M3 y1_ y2_ y3_ g16 1037 wa H.size) ⟨va_cnB 2 hts gX0_tellLaw_X4_tell_n142 rfl rfl rfl (nM_21 hN) (hts _ w24_8) hdX4_tell ⟨Nat.le_of_ble_eq_true rfl, Nat.le_of_ble_eq_true rfl⟩, hts (.instanceMethod yX4_tell) (by decide +kernel), hts (.selects RX4 yX4_tell yX4_tell) (by decide +kernel)⟩ ⟨kBlind, va_recv hK hPc (ci := 4) (q0 := 0) rfl rfl, fun U hU hW => ⟨rfl, by rw [hU], hN.warm hW, hE.pass hS hFc hW hU, by rw [hU]; exact hPc, va_K.moved hW.alike hK, hDc⟩⟩ rfl rfl hl.1 rfl (lv_room (Nat.le_of_ble_eq_true rfl)) dX0_tellLaw_112 ⟨Nat.le_of_ble_eq_true rfl, Nat.le_of_ble_eq_true rfl⟩) (fun u H locs hw hP hD hS => ?_)
  obtain ⟨g17, rfl⟩ : ∃ z, z = u := ⟨_, rfl⟩
  have hP : va_P D vwCl [(h, oX0 m1 m2 m3 mc sc tx nr ra ru dy wa se (some l0)), (m1, .inl (cI, 50, .inl f1)), (m2, .inl (cI, 72, .inl f2)), (m3, .inl (cJ, 30, .inr (.inl f3))), (l0, .inr (4, [.ref l1, .ref l2, .ref l3, .ref l4])), (l1, .inl (cI, M1, .inl y1_)), (l2, .inl (cI, M2, .inl y2_)), (l3, .inl (cI, M3, .inl y3_)), (l4, .inl (cI, 28, .inl g17))] H := hP
  have hD : va_D A [(h, oX0 m1 m2 m3 mc sc tx nr ra ru dy wa se (some l0)), (m1, .inl (cI, 50, .inl f1)), (m2, .inl (cI, 72, .inl f2)), (m3, .inl (cJ, 30, .inr (.inl f3))), (l0, .inr (4, [.ref l1, .ref l2, .ref l3, .ref l4])), (l1, .inl (cI, M1, .inl y1_)), (l2, .inl (cI, M2, .inl y2_)), (l3, .inl (cI, M3, .inl y3_)), (l4, .inl (cI, 28, .inl g17))] := hD
  refine lv_aload_n hx hb dX0_tellLaw_115 rfl (lv_at hl 1 rfl) ?_
  refine lv_sipush (v := 1031) hx hb dX0_tellLaw_116 (by decide) ?_
  refine lv_aload_n hx hb dX0_tellLaw_119 rfl (lv_at hl 0 rfl) ?_
  refine lv_iload_n hx hb dX0_tellLaw_120 rfl (lv_at hl 3 rfl) ?_
  refine kpurei (wc := [(h, oX0 m1 m2 m3 mc sc tx nr ra ru dy wa se (some l0)), (m1, .inl (cI, 50, .inl f1)), (m2, .inl (cI, 72, .inl f2)), (m3, .inl (cJ, 30, .inr (.inl f3)))]) hP hD hS hA [0, 1, 2, 3] rfl (by decide) (fun hPc hDc hFc => va_runV (As := [.int b]) (rest := [.int 1031, .ref l0]) ⟨hx, hb, hml, hown, hts⟩ (z_Camp_lastOf l D cI cJ cB cC h m1 m2 m3 mc sc tx nr ra ru dy wa se (some l0) f1 f2 f3 b H.size) (cwV 1 hts gX0_tellLaw_X0_lastOf rfl rfl rfl ⟨rfl, hdX0_lastOf⟩ ⟨Nat.le_of_ble_eq_true rfl, Nat.le_of_ble_eq_true rfl⟩) ⟨kBlind, va_recv hK hPc (ci := 0) (q0 := 0) rfl rfl, fun U hU hW => ⟨rfl, by rw [hU], hN.warm hW, hE.pass hS hFc hW hU, by rw [hU]; exact hPc, va_K.moved hW.alike hK, hDc⟩⟩ rfl rfl hl.1 rfl (lv_room (Nat.le_of_ble_eq_true rfl)) dX0_tellLaw_121 ⟨Nat.le_of_ble_eq_true rfl, Nat.le_of_ble_eq_true rfl⟩) (fun r18 u H locs hw hP hS => ?_)
  refine lv_iload_n hx hb dX0_tellLaw_124 rfl (lv_at hl 2 rfl) ?_
  refine lv_icmp_ne (tgt := 132) hx hb dX0_tellLaw_125 (by decide) (fun c20 => ?_) (fun c20 => ?_)
  · skip
    refine lv_iconst (v := 0) hx hb dX0_tellLaw_132 (by decide) ?_
    refine kcallv (wc := [(l0, .inr (4, [.ref l1, .ref l2, .ref l3, .ref l4])), (l1, .inl (cI, M1, .inl y1_)), (l2, .inl (cI, M2, .inl y2_)), (l3, .inl (cI, M3, .inl y3_)), (l4, .inl (cI, 28, .inl g17))]) (wr := [(h, oX0 m1 m2 m3 mc sc tx nr ra ru dy wa se (some l0)), (m1, .inl (cI, 50, .inl f1)), (m2, .inl (cI, 72, .inl f2)), (m3, .inl (cJ, 30, .inr (.inl f3)))]) hP hD hS hA [4, 5, 6, 7, 8] [0, 1, 2, 3] rfl rfl (by decide) (by decide) (by decide) (fun hPc hDc hFc => va_runVN (C := RX4) (As := [.int 1031, .int 0]) (rest := []) ⟨hx, hb, hml, hown, hts⟩ (z_Law_tellWhether l D cI cJ cB cC l0 l1 l2 l3 l4 M1 M2 M3 y1_ y2_ y3_ g17 1031 0 H.size (rg_w (rg_lit (n := 0) (by decide)) (by decide))) ⟨va_cnB 2 hts gX0_tellLaw_X4_tellWhether_n148 rfl rfl rfl (nM_22 hN) (hts _ w24_8) hdX4_tellWhether ⟨Nat.le_of_ble_eq_true rfl, Nat.le_of_ble_eq_true rfl⟩, hts (.instanceMethod yX4_tellWhether) (by decide +kernel), hts (.selects RX4 yX4_tellWhether yX4_tellWhether) (by decide +kernel)⟩ ⟨kBlind, va_recv hK hPc (ci := 4) (q0 := 0) rfl rfl, fun U hU hW => ⟨rfl, by rw [hU], hN.warm hW, hE.pass hS hFc hW hU, by rw [hU]; exact hPc, va_K.moved hW.alike hK, hDc⟩⟩ rfl rfl hl.1 rfl (lv_room (Nat.le_of_ble_eq_true rfl)) dX0_tellLaw_133 ⟨Nat.le_of_ble_eq_true rfl, Nat.le_of_ble_eq_true rfl⟩) (fun u H locs hw hP hD hS => ?_)
    obtain ⟨g21, rfl⟩ : ∃ z, z = u := ⟨_, rfl⟩
    have hP : va_P D vwCl [(h, oX0 m1 m2 m3 mc sc tx nr ra ru dy wa se (some l0)), (m1, .inl (cI, 50, .inl f1)), (m2, .inl (cI, 72, .inl f2)), (m3, .inl (cJ, 30, .inr (.inl f3))), (l0, .inr (4, [.ref l1, .ref l2, .ref l3, .ref l4])), (l1, .inl (cI, M1, .inl y1_)), (l2, .inl (cI, M2, .inl y2_)), (l3, .inl (cI, M3, .inl y3_)), (l4, .inl (cI, 28, .inl g21))] H := hP
    have hD : va_D A [(h, oX0 m1 m2 m3 mc sc tx nr ra ru dy wa se (some l0)), (m1, .inl (cI, 50, .inl f1)), (m2, .inl (cI, 72, .inl f2)), (m3, .inl (cJ, 30, .inr (.inl f3))), (l0, .inr (4, [.ref l1, .ref l2, .ref l3, .ref l4])), (l1, .inl (cI, M1, .inl y1_)), (l2, .inl (cI, M2, .inl y2_)), (l3, .inl (cI, M3, .inl y3_)), (l4, .inl (cI, 28, .inl g21))] := hD
    refine lv_aload_n hx hb dX0_tellLaw_136 rfl (lv_at hl 1 rfl) ?_
    refine lv_sipush (v := 1032) hx hb dX0_tellLaw_137 (by decide) ?_
    refine lv_aload_n hx hb dX0_tellLaw_140 rfl (lv_at hl 0 rfl) ?_
    refine lv_iload_n hx hb dX0_tellLaw_141 rfl (lv_at hl 2 rfl) ?_
    refine lv_iload_n hx hb dX0_tellLaw_142 rfl (lv_at hl 3 rfl) ?_
    refine kpurei (wc := [(h, oX0 m1 m2 m3 mc sc tx nr ra ru dy wa se (some l0)), (m1, .inl (cI, 50, .inl f1)), (m2, .inl (cI, 72, .inl f2)), (m3, .inl (cJ, 30, .inr (.inl f3)))]) hP hD hS hA [0, 1, 2, 3] rfl (by decide) (fun hPc hDc hFc => va_runV (As := [.int a, .int b]) (rest := [.int 1032, .ref l0]) ⟨hx, hb, hml, hown, hts⟩ (z_Camp_isLastNeighbour l D cI cJ cB cC h m1 m2 m3 mc sc tx nr ra ru dy wa se (some l0) f1 f2 f3 a b H.size) (cwV 2 hts gX0_tellLaw_X0_isLastNeighbour rfl rfl rfl ⟨rfl, hdX0_isLastNeighbour⟩ ⟨Nat.le_of_ble_eq_true rfl, Nat.le_of_ble_eq_true rfl⟩) ⟨kBlind, va_recv hK hPc (ci := 0) (q0 := 0) rfl rfl, fun U hU hW => ⟨rfl, by rw [hU], hN.warm hW, hE.pass hS hFc hW hU, by rw [hU]; exact hPc, va_K.moved hW.alike hK, hDc⟩⟩ rfl rfl hl.1 rfl (lv_room (Nat.le_of_ble_eq_true rfl)) dX0_tellLaw_143 ⟨Nat.le_of_ble_eq_true rfl, Nat.le_of_ble_eq_true rfl⟩) (fun r22 u H locs hw hP hS => ?_)
    rcases hw with rfl | rfl
    · skip
      refine kcallv (wc := [(l0, .inr (4, [.ref l1, .ref l2, .ref l3, .ref l4])), (l1, .inl (cI, M1, .inl y1_)), (l2, .inl (cI, M2, .inl y2_)), (l3, .inl (cI, M3, .inl y3_)), (l4, .inl (cI, 28, .inl g21))]) (wr := [(h, oX0 m1 m2 m3 mc sc tx nr ra ru dy wa se (some l0)), (m1, .inl (cI, 50, .inl f1)), (m2, .inl (cI, 72, .inl f2)), (m3, .inl (cJ, 30, .inr (.inl f3)))]) hP hD hS hA [4, 5, 6, 7, 8] [0, 1, 2, 3] rfl rfl (by decide) (by decide) (by decide) (fun hPc hDc hFc => va_runVN (C := RX4) (As := [.int 1032, .int 0]) (rest := []) ⟨hx, hb, hml, hown, hts⟩ (z_Law_tellWhether l D cI cJ cB cC l0 l1 l2 l3 l4 M1 M2 M3 y1_ y2_ y3_ g21 1032 0 H.size (rg_w (rg_lit (n := 0) (by decide)) (by decide))) ⟨va_cnB 2 hts gX0_tellLaw_X4_tellWhether_n148 rfl rfl rfl (nM_22 hN) (hts _ w24_8) hdX4_tellWhether ⟨Nat.le_of_ble_eq_true rfl, Nat.le_of_ble_eq_true rfl⟩, hts (.instanceMethod yX4_tellWhether) (by decide +kernel), hts (.selects RX4 yX4_tellWhether yX4_tellWhether) (by decide +kernel)⟩ ⟨kBlind, va_recv hK hPc (ci := 4) (q0 := 0) rfl rfl, fun U hU hW => ⟨rfl, by rw [hU], hN.warm hW, hE.pass hS hFc hW hU, by rw [hU]; exact hPc, va_K.moved hW.alike hK, hDc⟩⟩ rfl rfl hl.1 rfl (lv_room (Nat.le_of_ble_eq_true rfl)) dX0_tellLaw_146 ⟨Nat.le_of_ble_eq_true rfl, Nat.le_of_ble_eq_true rfl⟩) (fun u H locs hw hP hD hS => ?_)
      obtain ⟨g24, rfl⟩ : ∃ z, z = u := ⟨_, rfl⟩
      have hP : va_P D vwCl [(h, oX0 m1 m2 m3 mc sc tx nr ra ru dy wa se (some l0)), (m1, .inl (cI, 50, .inl f1)), (m2, .inl (cI, 72, .inl f2)), (m3, .inl (cJ, 30, .inr (.inl f3))), (l0, .inr (4, [.ref l1, .ref l2, .ref l3, .ref l4])), (l1, .inl (cI, M1, .inl y1_)), (l2, .inl (cI, M2, .inl y2_)), (l3, .inl (cI, M3, .inl y3_)), (l4, .inl (cI, 28, .inl g24))] H := hP
      have hD : va_D A [(h, oX0 m1 m2 m3 mc sc tx nr ra ru dy wa se (some l0)), (m1, .inl (cI, 50, .inl f1)), (m2, .inl (cI, 72, .inl f2)), (m3, .inl (cJ, 30, .inr (.inl f3))), (l0, .inr (4, [.ref l1, .ref l2, .ref l3, .ref l4])), (l1, .inl (cI, M1, .inl y1_)), (l2, .inl (cI, M2, .inl y2_)), (l3, .inl (cI, M3, .inl y3_)), (l4, .inl (cI, 28, .inl g24))] := hD
      refine lv_aload_n hx hb dX0_tellLaw_149 rfl (lv_at hl 1 rfl) ?_
      refine lv_sipush (v := 1033) hx hb dX0_tellLaw_150 (by decide) ?_
      refine lv_aload_n hx hb dX0_tellLaw_153 rfl (lv_at hl 0 rfl) ?_
      refine lv_iload_n hx hb dX0_tellLaw_154 rfl (lv_at hl 3 rfl) ?_
      refine lv_iconst (v := 0) hx hb dX0_tellLaw_155 (by decide) ?_
      refine kpurei (wc := [(h, oX0 m1 m2 m3 mc sc tx nr ra ru dy wa se (some l0)), (m1, .inl (cI, 50, .inl f1)), (m2, .inl (cI, 72, .inl f2)), (m3, .inl (cJ, 30, .inr (.inl f3)))]) hP hD hS hA [0, 1, 2, 3] rfl (by decide) (fun hPc hDc hFc => va_runV (As := [.int b, .int 0]) (rest := [.int 1033, .ref l0]) ⟨hx, hb, hml, hown, hts⟩ (z_Camp_ofShirt l D cI cJ cB cC h m1 m2 m3 mc sc tx nr ra ru dy wa se (some l0) f1 f2 f3 b 0 H.size) (cwV 2 hts gX0_tellLaw_X0_ofShirt rfl rfl rfl ⟨rfl, hdX0_ofShirt⟩ ⟨Nat.le_of_ble_eq_true rfl, Nat.le_of_ble_eq_true rfl⟩) ⟨kBlind, va_recv hK hPc (ci := 0) (q0 := 0) rfl rfl, fun U hU hW => ⟨rfl, by rw [hU], hN.warm hW, hE.pass hS hFc hW hU, by rw [hU]; exact hPc, va_K.moved hW.alike hK, hDc⟩⟩ rfl rfl hl.1 rfl (lv_room (Nat.le_of_ble_eq_true rfl)) dX0_tellLaw_156 ⟨Nat.le_of_ble_eq_true rfl, Nat.le_of_ble_eq_true rfl⟩) (fun r25 u H locs hw hP hS => ?_)
      refine lv_aload_n hx hb dX0_tellLaw_159 rfl (lv_at hl 0 rfl) ?_
      refine lv_iload_n hx hb dX0_tellLaw_160 rfl (lv_at hl 2 rfl) ?_
      refine lv_iconst (v := 3) hx hb dX0_tellLaw_161 (by decide) ?_
      refine kpurei (wc := [(h, oX0 m1 m2 m3 mc sc tx nr ra ru dy wa se (some l0)), (m1, .inl (cI, 50, .inl f1)), (m2, .inl (cI, 72, .inl f2)), (m3, .inl (cJ, 30, .inr (.inl f3)))]) hP hD hS hA [0, 1, 2, 3] rfl (by decide) (fun hPc hDc hFc => va_runV (As := [.int a, .int 3]) (rest := [.int r25, .int 1033, .ref l0]) ⟨hx, hb, hml, hown, hts⟩ (z_Camp_ofMan l D cI cJ cB cC h m1 m2 m3 mc sc tx nr ra ru dy wa se (some l0) f1 f2 f3 a 3 H.size) (cwV 2 hts gX0_tellLaw_X0_ofMan rfl rfl rfl ⟨rfl, hdX0_ofMan⟩ ⟨Nat.le_of_ble_eq_true rfl, Nat.le_of_ble_eq_true rfl⟩) ⟨kBlind, va_recv hK hPc (ci := 0) (q0 := 0) rfl rfl, fun U hU hW => ⟨rfl, by rw [hU], hN.warm hW, hE.pass hS hFc hW hU, by rw [hU]; exact hPc, va_K.moved hW.alike hK, hDc⟩⟩ rfl rfl hl.1 rfl (lv_room (Nat.le_of_ble_eq_true rfl)) dX0_tellLaw_162 ⟨Nat.le_of_ble_eq_true rfl, Nat.le_of_ble_eq_true rfl⟩) (fun r26 u H locs hw hP hS => ?_)
      refine lv_icmp_ne (tgt := 172) hx hb dX0_tellLaw_165 (by decide) (fun c28 => ?_) (fun c28 => ?_)
      · skip
        refine lv_iconst (v := 0) hx hb dX0_tellLaw_172 (by decide) ?_
        refine kcallv (wc := [(l0, .inr (4, [.ref l1, .ref l2, .ref l3, .ref l4])), (l1, .inl (cI, M1, .inl y1_)), (l2, .inl (cI, M2, .inl y2_)), (l3, .inl (cI, M3, .inl y3_)), (l4, .inl (cI, 28, .inl g24))]) (wr := [(h, oX0 m1 m2 m3 mc sc tx nr ra ru dy wa se (some l0)), (m1, .inl (cI, 50, .inl f1)), (m2, .inl (cI, 72, .inl f2)), (m3, .inl (cJ, 30, .inr (.inl f3)))]) hP hD hS hA [4, 5, 6, 7, 8] [0, 1, 2, 3] rfl rfl (by decide) (by decide) (by decide) (fun hPc hDc hFc => va_runVN (C := RX4) (As := [.int 1033, .int 0]) (rest := []) ⟨hx, hb, hml, hown, hts⟩ (z_Law_tellWhether l D cI cJ cB cC l0 l1 l2 l3 l4 M1 M2 M3 y1_ y2_ y3_ g24 1033 0 H.size (rg_w (rg_lit (n := 0) (by decide)) (by decide))) ⟨va_cnB 2 hts gX0_tellLaw_X4_tellWhether_n148 rfl rfl rfl (nM_22 hN) (hts _ w24_8) hdX4_tellWhether ⟨Nat.le_of_ble_eq_true rfl, Nat.le_of_ble_eq_true rfl⟩, hts (.instanceMethod yX4_tellWhether) (by decide +kernel), hts (.selects RX4 yX4_tellWhether yX4_tellWhether) (by decide +kernel)⟩ ⟨kBlind, va_recv hK hPc (ci := 4) (q0 := 0) rfl rfl, fun U hU hW => ⟨rfl, by rw [hU], hN.warm hW, hE.pass hS hFc hW hU, by rw [hU]; exact hPc, va_K.moved hW.alike hK, hDc⟩⟩ rfl rfl hl.1 rfl (lv_room (Nat.le_of_ble_eq_true rfl)) dX0_tellLaw_173 ⟨Nat.le_of_ble_eq_true rfl, Nat.le_of_ble_eq_true rfl⟩) (fun u H locs hw hP hD hS => ?_)
        obtain ⟨g29, rfl⟩ : ∃ z, z = u := ⟨_, rfl⟩
        have hP : va_P D vwCl [(h, oX0 m1 m2 m3 mc sc tx nr ra ru dy wa se (some l0)), (m1, .inl (cI, 50, .inl f1)), (m2, .inl (cI, 72, .inl f2)), (m3, .inl (cJ, 30, .inr (.inl f3))), (l0, .inr (4, [.ref l1, .ref l2, .ref l3, .ref l4])), (l1, .inl (cI, M1, .inl y1_)), (l2, .inl (cI, M2, .inl y2_)), (l3, .inl (cI, M3, .inl y3_)), (l4, .inl (cI, 28, .inl g29))] H := hP
        have hD : va_D A [(h, oX0 m1 m2 m3 mc sc tx nr ra ru dy wa se (some l0)), (m1, .inl (cI, 50, .inl f1)), (m2, .inl (cI, 72, .inl f2)), (m3, .inl (cJ, 30, .inr (.inl f3))), (l0, .inr (4, [.ref l1, .ref l2, .ref l3, .ref l4])), (l1, .inl (cI, M1, .inl y1_)), (l2, .inl (cI, M2, .inl y2_)), (l3, .inl (cI, M3, .inl y3_)), (l4, .inl (cI, 28, .inl g29))] := hD
        have hP9 := hP.sub (ws' := [(h, oX0 m1 m2 m3 mc sc tx nr ra ru dy wa se (some l0)), (m1, .inl (cI, 50, .inl f1)), (m2, .inl (cI, 72, .inl f2)), (m3, .inl (cJ, 30, .inr (.inl f3))), (l0, .inr (4, [.ref l1, .ref l2, .ref l3, .ref l4])), (l1, .inl (cI, M1, .inl y1_)), (l2, .inl (cI, M2, .inl y2_)), (l3, .inl (cI, M3, .inl y3_)), (l4, .inl (cI, 28, .inl g29))]) [0, 1, 2, 3, 4, 5, 6, 7, 8] rfl
        have hD9 := hD.sub (ws' := [(h, oX0 m1 m2 m3 mc sc tx nr ra ru dy wa se (some l0)), (m1, .inl (cI, 50, .inl f1)), (m2, .inl (cI, 72, .inl f2)), (m3, .inl (cJ, 30, .inr (.inl f3))), (l0, .inr (4, [.ref l1, .ref l2, .ref l3, .ref l4])), (l1, .inl (cI, M1, .inl y1_)), (l2, .inl (cI, M2, .inl y2_)), (l3, .inl (cI, M3, .inl y3_)), (l4, .inl (cI, 28, .inl g29))]) [0, 1, 2, 3, 4, 5, 6, 7, 8] (by decide) rfl
        exact W.vret hx hb hr (fun t ht hW => ⟨⟨(g29), rfl, trivial, by rw [ht]; exact hP9, va_K.moved hW.alike hK, hD9⟩, hS.F ht⟩) hS.2.2 dX0_tellLaw_176
      · skip
        refine lv_iconst (v := 1) hx hb dX0_tellLaw_168 (by decide) ?_
        refine lv_goto (tgt := 173) hx hb dX0_tellLaw_169 (by decide) ?_
        refine kcallv (wc := [(l0, .inr (4, [.ref l1, .ref l2, .ref l3, .ref l4])), (l1, .inl (cI, M1, .inl y1_)), (l2, .inl (cI, M2, .inl y2_)), (l3, .inl (cI, M3, .inl y3_)), (l4, .inl (cI, 28, .inl g24))]) (wr := [(h, oX0 m1 m2 m3 mc sc tx nr ra ru dy wa se (some l0)), (m1, .inl (cI, 50, .inl f1)), (m2, .inl (cI, 72, .inl f2)), (m3, .inl (cJ, 30, .inr (.inl f3)))]) hP hD hS hA [4, 5, 6, 7, 8] [0, 1, 2, 3] rfl rfl (by decide) (by decide) (by decide) (fun hPc hDc hFc => va_runVN (C := RX4) (As := [.int 1033, .int 1]) (rest := []) ⟨hx, hb, hml, hown, hts⟩ (z_Law_tellWhether l D cI cJ cB cC l0 l1 l2 l3 l4 M1 M2 M3 y1_ y2_ y3_ g24 1033 1 H.size (rg_w (rg_lit (n := 1) (by decide)) (by decide))) ⟨va_cnB 2 hts gX0_tellLaw_X4_tellWhether_n148 rfl rfl rfl (nM_22 hN) (hts _ w24_8) hdX4_tellWhether ⟨Nat.le_of_ble_eq_true rfl, Nat.le_of_ble_eq_true rfl⟩, hts (.instanceMethod yX4_tellWhether) (by decide +kernel), hts (.selects RX4 yX4_tellWhether yX4_tellWhether) (by decide +kernel)⟩ ⟨kBlind, va_recv hK hPc (ci := 4) (q0 := 0) rfl rfl, fun U hU hW => ⟨rfl, by rw [hU], hN.warm hW, hE.pass hS hFc hW hU, by rw [hU]; exact hPc, va_K.moved hW.alike hK, hDc⟩⟩ rfl rfl hl.1 rfl (lv_room (Nat.le_of_ble_eq_true rfl)) dX0_tellLaw_173 ⟨Nat.le_of_ble_eq_true rfl, Nat.le_of_ble_eq_true rfl⟩) (fun u H locs hw hP hD hS => ?_)
        obtain ⟨g30, rfl⟩ : ∃ z, z = u := ⟨_, rfl⟩
        have hP : va_P D vwCl [(h, oX0 m1 m2 m3 mc sc tx nr ra ru dy wa se (some l0)), (m1, .inl (cI, 50, .inl f1)), (m2, .inl (cI, 72, .inl f2)), (m3, .inl (cJ, 30, .inr (.inl f3))), (l0, .inr (4, [.ref l1, .ref l2, .ref l3, .ref l4])), (l1, .inl (cI, M1, .inl y1_)), (l2, .inl (cI, M2, .inl y2_)), (l3, .inl (cI, M3, .inl y3_)), (l4, .inl (cI, 28, .inl g30))] H := hP
        have hD : va_D A [(h, oX0 m1 m2 m3 mc sc tx nr ra ru dy wa se (some l0)), (m1, .inl (cI, 50, .inl f1)), (m2, .inl (cI, 72, .inl f2)), (m3, .inl (cJ, 30, .inr (.inl f3))), (l0, .inr (4, [.ref l1, .ref l2, .ref l3, .ref l4])), (l1, .inl (cI, M1, .inl y1_)), (l2, .inl (cI, M2, .inl y2_)), (l3, .inl (cI, M3, .inl y3_)), (l4, .inl (cI, 28, .inl g30))] := hD
        have hP9 := hP.sub (ws' := [(h, oX0 m1 m2 m3 mc sc tx nr ra ru dy wa se (some l0)), (m1, .inl (cI, 50, .inl f1)), (m2, .inl (cI, 72, .inl f2)), (m3, .inl (cJ, 30, .inr (.inl f3))), (l0, .inr (4, [.ref l1, .ref l2, .ref l3, .ref l4])), (l1, .inl (cI, M1, .inl y1_)), (l2, .inl (cI, M2, .inl y2_)), (l3, .inl (cI, M3, .inl y3_)), (l4, .inl (cI, 28, .inl g30))]) [0, 1, 2, 3, 4, 5, 6, 7, 8] rfl
        have hD9 := hD.sub (ws' := [(h, oX0 m1 m2 m3 mc sc tx nr ra ru dy wa se (some l0)), (m1, .inl (cI, 50, .inl f1)), (m2, .inl (cI, 72, .inl f2)), (m3, .inl (cJ, 30, .inr (.inl f3))), (l0, .inr (4, [.ref l1, .ref l2, .ref l3, .ref l4])), (l1, .inl (cI, M1, .inl y1_)), (l2, .inl (cI, M2, .inl y2_)), (l3, .inl (cI, M3, .inl y3_)), (l4, .inl (cI, 28, .inl g30))]) [0, 1, 2, 3, 4, 5, 6, 7, 8] (by decide) rfl
        exact W.vret hx hb hr (fun t ht hW => ⟨⟨(g30), rfl, trivial, by rw [ht]; exact hP9, va_K.moved hW.alike hK, hD9⟩, hS.F ht⟩) hS.2.2 dX0_tellLaw_176
    · skip
      refine kcallv (wc := [(l0, .inr (4, [.ref l1, .ref l2, .ref l3, .ref l4])), (l1, .inl (cI, M1, .inl y1_)), (l2, .inl (cI, M2, .inl y2_)), (l3, .inl (cI, M3, .inl y3_)), (l4, .inl (cI, 28, .inl g21))]) (wr := [(h, oX0 m1 m2 m3 mc sc tx nr ra ru dy wa se (some l0)), (m1, .inl (cI, 50, .inl f1)), (m2, .inl (cI, 72, .inl f2)), (m3, .inl (cJ, 30, .inr (.inl f3)))]) hP hD hS hA [4, 5, 6, 7, 8] [0, 1, 2, 3] rfl rfl (by decide) (by decide) (by decide) (fun hPc hDc hFc => va_runVN (C := RX4) (As := [.int 1032, .int 1]) (rest := []) ⟨hx, hb, hml, hown, hts⟩ (z_Law_tellWhether l D cI cJ cB cC l0 l1 l2 l3 l4 M1 M2 M3 y1_ y2_ y3_ g21 1032 1 H.size (rg_w (rg_lit (n := 1) (by decide)) (by decide))) ⟨va_cnB 2 hts gX0_tellLaw_X4_tellWhether_n148 rfl rfl rfl (nM_22 hN) (hts _ w24_8) hdX4_tellWhether ⟨Nat.le_of_ble_eq_true rfl, Nat.le_of_ble_eq_true rfl⟩, hts (.instanceMethod yX4_tellWhether) (by decide +kernel), hts (.selects RX4 yX4_tellWhether yX4_tellWhether) (by decide +kernel)⟩ ⟨kBlind, va_recv hK hPc (ci := 4) (q0 := 0) rfl rfl, fun U hU hW => ⟨rfl, by rw [hU], hN.warm hW, hE.pass hS hFc hW hU, by rw [hU]; exact hPc, va_K.moved hW.alike hK, hDc⟩⟩ rfl rfl hl.1 rfl (lv_room (Nat.le_of_ble_eq_true rfl)) dX0_tellLaw_146 ⟨Nat.le_of_ble_eq_true rfl, Nat.le_of_ble_eq_true rfl⟩) (fun u H locs hw hP hD hS => ?_)
      obtain ⟨g31, rfl⟩ : ∃ z, z = u := ⟨_, rfl⟩
      have hP : va_P D vwCl [(h, oX0 m1 m2 m3 mc sc tx nr ra ru dy wa se (some l0)), (m1, .inl (cI, 50, .inl f1)), (m2, .inl (cI, 72, .inl f2)), (m3, .inl (cJ, 30, .inr (.inl f3))), (l0, .inr (4, [.ref l1, .ref l2, .ref l3, .ref l4])), (l1, .inl (cI, M1, .inl y1_)), (l2, .inl (cI, M2, .inl y2_)), (l3, .inl (cI, M3, .inl y3_)), (l4, .inl (cI, 28, .inl g31))] H := hP
      have hD : va_D A [(h, oX0 m1 m2 m3 mc sc tx nr ra ru dy wa se (some l0)), (m1, .inl (cI, 50, .inl f1)), (m2, .inl (cI, 72, .inl f2)), (m3, .inl (cJ, 30, .inr (.inl f3))), (l0, .inr (4, [.ref l1, .ref l2, .ref l3, .ref l4])), (l1, .inl (cI, M1, .inl y1_)), (l2, .inl (cI, M2, .inl y2_)), (l3, .inl (cI, M3, .inl y3_)), (l4, .inl (cI, 28, .inl g31))] := hD
      refine lv_aload_n hx hb dX0_tellLaw_149 rfl (lv_at hl 1 rfl) ?_
      refine lv_sipush (v := 1033) hx hb dX0_tellLaw_150 (by decide) ?_
      refine lv_aload_n hx hb dX0_tellLaw_153 rfl (lv_at hl 0 rfl) ?_
      refine lv_iload_n hx hb dX0_tellLaw_154 rfl (lv_at hl 3 rfl) ?_
      refine lv_iconst (v := 0) hx hb dX0_tellLaw_155 (by decide) ?_
      refine kpurei (wc := [(h, oX0 m1 m2 m3 mc sc tx nr ra ru dy wa se (some l0)), (m1, .inl (cI, 50, .inl f1)), (m2, .inl (cI, 72, .inl f2)), (m3, .inl (cJ, 30, .inr (.inl f3)))]) hP hD hS hA [0, 1, 2, 3] rfl (by decide) (fun hPc hDc hFc => va_runV (As := [.int b, .int 0]) (rest := [.int 1033, .ref l0]) ⟨hx, hb, hml, hown, hts⟩ (z_Camp_ofShirt l D cI cJ cB cC h m1 m2 m3 mc sc tx nr ra ru dy wa se (some l0) f1 f2 f3 b 0 H.size) (cwV 2 hts gX0_tellLaw_X0_ofShirt rfl rfl rfl ⟨rfl, hdX0_ofShirt⟩ ⟨Nat.le_of_ble_eq_true rfl, Nat.le_of_ble_eq_true rfl⟩) ⟨kBlind, va_recv hK hPc (ci := 0) (q0 := 0) rfl rfl, fun U hU hW => ⟨rfl, by rw [hU], hN.warm hW, hE.pass hS hFc hW hU, by rw [hU]; exact hPc, va_K.moved hW.alike hK, hDc⟩⟩ rfl rfl hl.1 rfl (lv_room (Nat.le_of_ble_eq_true rfl)) dX0_tellLaw_156 ⟨Nat.le_of_ble_eq_true rfl, Nat.le_of_ble_eq_true rfl⟩) (fun r32 u H locs hw hP hS => ?_)
      refine lv_aload_n hx hb dX0_tellLaw_159 rfl (lv_at hl 0 rfl) ?_
      refine lv_iload_n hx hb dX0_tellLaw_160 rfl (lv_at hl 2 rfl) ?_
      refine lv_iconst (v := 3) hx hb dX0_tellLaw_161 (by decide) ?_
      refine kpurei (wc := [(h, oX0 m1 m2 m3 mc sc tx nr ra ru dy wa se (some l0)), (m1, .inl (cI, 50, .inl f1)), (m2, .inl (cI, 72, .inl f2)), (m3, .inl (cJ, 30, .inr (.inl f3)))]) hP hD hS hA [0, 1, 2, 3] rfl (by decide) (fun hPc hDc hFc => va_runV (As := [.int a, .int 3]) (rest := [.int r32, .int 1033, .ref l0]) ⟨hx, hb, hml, hown, hts⟩ (z_Camp_ofMan l D cI cJ cB cC h m1 m2 m3 mc sc tx nr ra ru dy wa se (some l0) f1 f2 f3 a 3 H.size) (cwV 2 hts gX0_tellLaw_X0_ofMan rfl rfl rfl ⟨rfl, hdX0_ofMan⟩ ⟨Nat.le_of_ble_eq_true rfl, Nat.le_of_ble_eq_true rfl⟩) ⟨kBlind, va_recv hK hPc (ci := 0) (q0 := 0) rfl rfl, fun U hU hW => ⟨rfl, by rw [hU], hN.warm hW, hE.pass hS hFc hW hU, by rw [hU]; exact hPc, va_K.moved hW.alike hK, hDc⟩⟩ rfl rfl hl.1 rfl (lv_room (Nat.le_of_ble_eq_true rfl)) dX0_tellLaw_162 ⟨Nat.le_of_ble_eq_true rfl, Nat.le_of_ble_eq_true rfl⟩) (fun r33 u H locs hw hP hS => ?_)
      refine lv_icmp_ne (tgt := 172) hx hb dX0_tellLaw_165 (by decide) (fun c35 => ?_) (fun c35 => ?_)
      · skip
        refine lv_iconst (v := 0) hx hb dX0_tellLaw_172 (by decide) ?_
        refine kcallv (wc := [(l0, .inr (4, [.ref l1, .ref l2, .ref l3, .ref l4])), (l1, .inl (cI, M1, .inl y1_)), (l2, .inl (cI, M2, .inl y2_)), (l3, .inl (cI, M3, .inl y3_)), (l4, .inl (cI, 28, .inl g31))]) (wr := [(h, oX0 m1 m2 m3 mc sc tx nr ra ru dy wa se (some l0)), (m1, .inl (cI, 50, .inl f1)), (m2, .inl (cI, 72, .inl f2)), (m3, .inl (cJ, 30, .inr (.inl f3)))]) hP hD hS hA [4, 5, 6, 7, 8] [0, 1, 2, 3] rfl rfl (by decide) (by decide) (by decide) (fun hPc hDc hFc => va_runVN (C := RX4) (As := [.int 1033, .int 0]) (rest := []) ⟨hx, hb, hml, hown, hts⟩ (z_Law_tellWhether l D cI cJ cB cC l0 l1 l2 l3 l4 M1 M2 M3 y1_ y2_ y3_ g31 1033 0 H.size (rg_w (rg_lit (n := 0) (by decide)) (by decide))) ⟨va_cnB 2 hts gX0_tellLaw_X4_tellWhether_n148 rfl rfl rfl (nM_22 hN) (hts _ w24_8) hdX4_tellWhether ⟨Nat.le_of_ble_eq_true rfl, Nat.le_of_ble_eq_true rfl⟩, hts (.instanceMethod yX4_tellWhether) (by decide +kernel), hts (.selects RX4 yX4_tellWhether yX4_tellWhether) (by decide +kernel)⟩ ⟨kBlind, va_recv hK hPc (ci := 4) (q0 := 0) rfl rfl, fun U hU hW => ⟨rfl, by rw [hU], hN.warm hW, hE.pass hS hFc hW hU, by rw [hU]; exact hPc, va_K.moved hW.alike hK, hDc⟩⟩ rfl rfl hl.1 rfl (lv_room (Nat.le_of_ble_eq_true rfl)) dX0_tellLaw_173 ⟨Nat.le_of_ble_eq_true rfl, Nat.le_of_ble_eq_true rfl⟩) (fun u H locs hw hP hD hS => ?_)
        obtain ⟨g36, rfl⟩ : ∃ z, z = u := ⟨_, rfl⟩
        have hP : va_P D vwCl [(h, oX0 m1 m2 m3 mc sc tx nr ra ru dy wa se (some l0)), (m1, .inl (cI, 50, .inl f1)), (m2, .inl (cI, 72, .inl f2)), (m3, .inl (cJ, 30, .inr (.inl f3))), (l0, .inr (4, [.ref l1, .ref l2, .ref l3, .ref l4])), (l1, .inl (cI, M1, .inl y1_)), (l2, .inl (cI, M2, .inl y2_)), (l3, .inl (cI, M3, .inl y3_)), (l4, .inl (cI, 28, .inl g36))] H := hP
        have hD : va_D A [(h, oX0 m1 m2 m3 mc sc tx nr ra ru dy wa se (some l0)), (m1, .inl (cI, 50, .inl f1)), (m2, .inl (cI, 72, .inl f2)), (m3, .inl (cJ, 30, .inr (.inl f3))), (l0, .inr (4, [.ref l1, .ref l2, .ref l3, .ref l4])), (l1, .inl (cI, M1, .inl y1_)), (l2, .inl (cI, M2, .inl y2_)), (l3, .inl (cI, M3, .inl y3_)), (l4, .inl (cI, 28, .inl g36))] := hD
        have hP9 := hP.sub (ws' := [(h, oX0 m1 m2 m3 mc sc tx nr ra ru dy wa se (some l0)), (m1, .inl (cI, 50, .inl f1)), (m2, .inl (cI, 72, .inl f2)), (m3, .inl (cJ, 30, .inr (.inl f3))), (l0, .inr (4, [.ref l1, .ref l2, .ref l3, .ref l4])), (l1, .inl (cI, M1, .inl y1_)), (l2, .inl (cI, M2, .inl y2_)), (l3, .inl (cI, M3, .inl y3_)), (l4, .inl (cI, 28, .inl g36))]) [0, 1, 2, 3, 4, 5, 6, 7, 8] rfl
        have hD9 := hD.sub (ws' := [(h, oX0 m1 m2 m3 mc sc tx nr ra ru dy wa se (some l0)), (m1, .inl (cI, 50, .inl f1)), (m2, .inl (cI, 72, .inl f2)), (m3, .inl (cJ, 30, .inr (.inl f3))), (l0, .inr (4, [.ref l1, .ref l2, .ref l3, .ref l4])), (l1, .inl (cI, M1, .inl y1_)), (l2, .inl (cI, M2, .inl y2_)), (l3, .inl (cI, M3, .inl y3_)), (l4, .inl (cI, 28, .inl g36))]) [0, 1, 2, 3, 4, 5, 6, 7, 8] (by decide) rfl
        exact W.vret hx hb hr (fun t ht hW => ⟨⟨(g36), rfl, trivial, by rw [ht]; exact hP9, va_K.moved hW.alike hK, hD9⟩, hS.F ht⟩) hS.2.2 dX0_tellLaw_176
      · skip
        refine lv_iconst (v := 1) hx hb dX0_tellLaw_168 (by decide) ?_
        refine lv_goto (tgt := 173) hx hb dX0_tellLaw_169 (by decide) ?_
        refine kcallv (wc := [(l0, .inr (4, [.ref l1, .ref l2, .ref l3, .ref l4])), (l1, .inl (cI, M1, .inl y1_)), (l2, .inl (cI, M2, .inl y2_)), (l3, .inl (cI, M3, .inl y3_)), (l4, .inl (cI, 28, .inl g31))]) (wr := [(h, oX0 m1 m2 m3 mc sc tx nr ra ru dy wa se (some l0)), (m1, .inl (cI, 50, .inl f1)), (m2, .inl (cI, 72, .inl f2)), (m3, .inl (cJ, 30, .inr (.inl f3)))]) hP hD hS hA [4, 5, 6, 7, 8] [0, 1, 2, 3] rfl rfl (by decide) (by decide) (by decide) (fun hPc hDc hFc => va_runVN (C := RX4) (As := [.int 1033, .int 1]) (rest := []) ⟨hx, hb, hml, hown, hts⟩ (z_Law_tellWhether l D cI cJ cB cC l0 l1 l2 l3 l4 M1 M2 M3 y1_ y2_ y3_ g31 1033 1 H.size (rg_w (rg_lit (n := 1) (by decide)) (by decide))) ⟨va_cnB 2 hts gX0_tellLaw_X4_tellWhether_n148 rfl rfl rfl (nM_22 hN) (hts _ w24_8) hdX4_tellWhether ⟨Nat.le_of_ble_eq_true rfl, Nat.le_of_ble_eq_true rfl⟩, hts (.instanceMethod yX4_tellWhether) (by decide +kernel), hts (.selects RX4 yX4_tellWhether yX4_tellWhether) (by decide +kernel)⟩ ⟨kBlind, va_recv hK hPc (ci := 4) (q0 := 0) rfl rfl, fun U hU hW => ⟨rfl, by rw [hU], hN.warm hW, hE.pass hS hFc hW hU, by rw [hU]; exact hPc, va_K.moved hW.alike hK, hDc⟩⟩ rfl rfl hl.1 rfl (lv_room (Nat.le_of_ble_eq_true rfl)) dX0_tellLaw_173 ⟨Nat.le_of_ble_eq_true rfl, Nat.le_of_ble_eq_true rfl⟩) (fun u H locs hw hP hD hS => ?_)
        obtain ⟨g37, rfl⟩ : ∃ z, z = u := ⟨_, rfl⟩
        have hP : va_P D vwCl [(h, oX0 m1 m2 m3 mc sc tx nr ra ru dy wa se (some l0)), (m1, .inl (cI, 50, .inl f1)), (m2, .inl (cI, 72, .inl f2)), (m3, .inl (cJ, 30, .inr (.inl f3))), (l0, .inr (4, [.ref l1, .ref l2, .ref l3, .ref l4])), (l1, .inl (cI, M1, .inl y1_)), (l2, .inl (cI, M2, .inl y2_)), (l3, .inl (cI, M3, .inl y3_)), (l4, .inl (cI, 28, .inl g37))] H := hP
        have hD : va_D A [(h, oX0 m1 m2 m3 mc sc tx nr ra ru dy wa se (some l0)), (m1, .inl (cI, 50, .inl f1)), (m2, .inl (cI, 72, .inl f2)), (m3, .inl (cJ, 30, .inr (.inl f3))), (l0, .inr (4, [.ref l1, .ref l2, .ref l3, .ref l4])), (l1, .inl (cI, M1, .inl y1_)), (l2, .inl (cI, M2, .inl y2_)), (l3, .inl (cI, M3, .inl y3_)), (l4, .inl (cI, 28, .inl g37))] := hD
        have hP9 := hP.sub (ws' := [(h, oX0 m1 m2 m3 mc sc tx nr ra ru dy wa se (some l0)), (m1, .inl (cI, 50, .inl f1)), (m2, .inl (cI, 72, .inl f2)), (m3, .inl (cJ, 30, .inr (.inl f3))), (l0, .inr (4, [.ref l1, .ref l2, .ref l3, .ref l4])), (l1, .inl (cI, M1, .inl y1_)), (l2, .inl (cI, M2, .inl y2_)), (l3, .inl (cI, M3, .inl y3_)), (l4, .inl (cI, 28, .inl g37))]) [0, 1, 2, 3, 4, 5, 6, 7, 8] rfl
        have hD9 := hD.sub (ws' := [(h, oX0 m1 m2 m3 mc sc tx nr ra ru dy wa se (some l0)), (m1, .inl (cI, 50, .inl f1)), (m2, .inl (cI, 72, .inl f2)), (m3, .inl (cJ, 30, .inr (.inl f3))), (l0, .inr (4, [.ref l1, .ref l2, .ref l3, .ref l4])), (l1, .inl (cI, M1, .inl y1_)), (l2, .inl (cI, M2, .inl y2_)), (l3, .inl (cI, M3, .inl y3_)), (l4, .inl (cI, 28, .inl g37))]) [0, 1, 2, 3, 4, 5, 6, 7, 8] (by decide) rfl
        exact W.vret hx hb hr (fun t ht hW => ⟨⟨(g37), rfl, trivial, by rw [ht]; exact hP9, va_K.moved hW.alike hK, hD9⟩, hS.F ht⟩) hS.2.2 dX0_tellLaw_176
  · skip
    refine lv_iconst (v := 1) hx hb dX0_tellLaw_128 (by decide) ?_
    refine lv_goto (tgt := 133) hx hb dX0_tellLaw_129 (by decide) ?_
    refine kcallv (wc := [(l0, .inr (4, [.ref l1, .ref l2, .ref l3, .ref l4])), (l1, .inl (cI, M1, .inl y1_)), (l2, .inl (cI, M2, .inl y2_)), (l3, .inl (cI, M3, .inl y3_)), (l4, .inl (cI, 28, .inl g17))]) (wr := [(h, oX0 m1 m2 m3 mc sc tx nr ra ru dy wa se (some l0)), (m1, .inl (cI, 50, .inl f1)), (m2, .inl (cI, 72, .inl f2)), (m3, .inl (cJ, 30, .inr (.inl f3)))]) hP hD hS hA [4, 5, 6, 7, 8] [0, 1, 2, 3] rfl rfl (by decide) (by decide) (by decide) (fun hPc hDc hFc => va_runVN (C := RX4) (As := [.int 1031, .int 1]) (rest := []) ⟨hx, hb, hml, hown, hts⟩ (z_Law_tellWhether l D cI cJ cB cC l0 l1 l2 l3 l4 M1 M2 M3 y1_ y2_ y3_ g17 1031 1 H.size (rg_w (rg_lit (n := 1) (by decide)) (by decide))) ⟨va_cnB 2 hts gX0_tellLaw_X4_tellWhether_n148 rfl rfl rfl (nM_22 hN) (hts _ w24_8) hdX4_tellWhether ⟨Nat.le_of_ble_eq_true rfl, Nat.le_of_ble_eq_true rfl⟩, hts (.instanceMethod yX4_tellWhether) (by decide +kernel), hts (.selects RX4 yX4_tellWhether yX4_tellWhether) (by decide +kernel)⟩ ⟨kBlind, va_recv hK hPc (ci := 4) (q0 := 0) rfl rfl, fun U hU hW => ⟨rfl, by rw [hU], hN.warm hW, hE.pass hS hFc hW hU, by rw [hU]; exact hPc, va_K.moved hW.alike hK, hDc⟩⟩ rfl rfl hl.1 rfl (lv_room (Nat.le_of_ble_eq_true rfl)) dX0_tellLaw_133 ⟨Nat.le_of_ble_eq_true rfl, Nat.le_of_ble_eq_true rfl⟩) (fun u H locs hw hP hD hS => ?_)
    obtain ⟨g38, rfl⟩ : ∃ z, z = u := ⟨_, rfl⟩
    have hP : va_P D vwCl [(h, oX0 m1 m2 m3 mc sc tx nr ra ru dy wa se (some l0)), (m1, .inl (cI, 50, .inl f1)), (m2, .inl (cI, 72, .inl f2)), (m3, .inl (cJ, 30, .inr (.inl f3))), (l0, .inr (4, [.ref l1, .ref l2, .ref l3, .ref l4])), (l1, .inl (cI, M1, .inl y1_)), (l2, .inl (cI, M2, .inl y2_)), (l3, .inl (cI, M3, .inl y3_)), (l4, .inl (cI, 28, .inl g38))] H := hP
    have hD : va_D A [(h, oX0 m1 m2 m3 mc sc tx nr ra ru dy wa se (some l0)), (m1, .inl (cI, 50, .inl f1)), (m2, .inl (cI, 72, .inl f2)), (m3, .inl (cJ, 30, .inr (.inl f3))), (l0, .inr (4, [.ref l1, .ref l2, .ref l3, .ref l4])), (l1, .inl (cI, M1, .inl y1_)), (l2, .inl (cI, M2, .inl y2_)), (l3, .inl (cI, M3, .inl y3_)), (l4, .inl (cI, 28, .inl g38))] := hD
    refine lv_aload_n hx hb dX0_tellLaw_136 rfl (lv_at hl 1 rfl) ?_
    refine lv_sipush (v := 1032) hx hb dX0_tellLaw_137 (by decide) ?_
    refine lv_aload_n hx hb dX0_tellLaw_140 rfl (lv_at hl 0 rfl) ?_
    refine lv_iload_n hx hb dX0_tellLaw_141 rfl (lv_at hl 2 rfl) ?_
    refine lv_iload_n hx hb dX0_tellLaw_142 rfl (lv_at hl 3 rfl) ?_
    refine kpurei (wc := [(h, oX0 m1 m2 m3 mc sc tx nr ra ru dy wa se (some l0)), (m1, .inl (cI, 50, .inl f1)), (m2, .inl (cI, 72, .inl f2)), (m3, .inl (cJ, 30, .inr (.inl f3)))]) hP hD hS hA [0, 1, 2, 3] rfl (by decide) (fun hPc hDc hFc => va_runV (As := [.int a, .int b]) (rest := [.int 1032, .ref l0]) ⟨hx, hb, hml, hown, hts⟩ (z_Camp_isLastNeighbour l D cI cJ cB cC h m1 m2 m3 mc sc tx nr ra ru dy wa se (some l0) f1 f2 f3 a b H.size) (cwV 2 hts gX0_tellLaw_X0_isLastNeighbour rfl rfl rfl ⟨rfl, hdX0_isLastNeighbour⟩ ⟨Nat.le_of_ble_eq_true rfl, Nat.le_of_ble_eq_true rfl⟩) ⟨kBlind, va_recv hK hPc (ci := 0) (q0 := 0) rfl rfl, fun U hU hW => ⟨rfl, by rw [hU], hN.warm hW, hE.pass hS hFc hW hU, by rw [hU]; exact hPc, va_K.moved hW.alike hK, hDc⟩⟩ rfl rfl hl.1 rfl (lv_room (Nat.le_of_ble_eq_true rfl)) dX0_tellLaw_143 ⟨Nat.le_of_ble_eq_true rfl, Nat.le_of_ble_eq_true rfl⟩) (fun r39 u H locs hw hP hS => ?_)
    rcases hw with rfl | rfl
    · skip
      refine kcallv (wc := [(l0, .inr (4, [.ref l1, .ref l2, .ref l3, .ref l4])), (l1, .inl (cI, M1, .inl y1_)), (l2, .inl (cI, M2, .inl y2_)), (l3, .inl (cI, M3, .inl y3_)), (l4, .inl (cI, 28, .inl g38))]) (wr := [(h, oX0 m1 m2 m3 mc sc tx nr ra ru dy wa se (some l0)), (m1, .inl (cI, 50, .inl f1)), (m2, .inl (cI, 72, .inl f2)), (m3, .inl (cJ, 30, .inr (.inl f3)))]) hP hD hS hA [4, 5, 6, 7, 8] [0, 1, 2, 3] rfl rfl (by decide) (by decide) (by decide) (fun hPc hDc hFc => va_runVN (C := RX4) (As := [.int 1032, .int 0]) (rest := []) ⟨hx, hb, hml, hown, hts⟩ (z_Law_tellWhether l D cI cJ cB cC l0 l1 l2 l3 l4 M1 M2 M3 y1_ y2_ y3_ g38 1032 0 H.size (rg_w (rg_lit (n := 0) (by decide)) (by decide))) ⟨va_cnB 2 hts gX0_tellLaw_X4_tellWhether_n148 rfl rfl rfl (nM_22 hN) (hts _ w24_8) hdX4_tellWhether ⟨Nat.le_of_ble_eq_true rfl, Nat.le_of_ble_eq_true rfl⟩, hts (.instanceMethod yX4_tellWhether) (by decide +kernel), hts (.selects RX4 yX4_tellWhether yX4_tellWhether) (by decide +kernel)⟩ ⟨kBlind, va_recv hK hPc (ci := 4) (q0 := 0) rfl rfl, fun U hU hW => ⟨rfl, by rw [hU], hN.warm hW, hE.pass hS hFc hW hU, by rw [hU]; exact hPc, va_K.moved hW.alike hK, hDc⟩⟩ rfl rfl hl.1 rfl (lv_room (Nat.le_of_ble_eq_true rfl)) dX0_tellLaw_146 ⟨Nat.le_of_ble_eq_true rfl, Nat.le_of_ble_eq_true rfl⟩) (fun u H locs hw hP hD hS => ?_)
      obtain ⟨g41, rfl⟩ : ∃ z, z = u := ⟨_, rfl⟩
      have hP : va_P D vwCl [(h, oX0 m1 m2 m3 mc sc tx nr ra ru dy wa se (some l0)), (m1, .inl (cI, 50, .inl f1)), (m2, .inl (cI, 72, .inl f2)), (m3, .inl (cJ, 30, .inr (.inl f3))), (l0, .inr (4, [.ref l1, .ref l2, .ref l3, .ref l4])), (l1, .inl (cI, M1, .inl y1_)), (l2, .inl (cI, M2, .inl y2_)), (l3, .inl (cI, M3, .inl y3_)), (l4, .inl (cI, 28, .inl g41))] H := hP
      have hD : va_D A [(h, oX0 m1 m2 m3 mc sc tx nr ra ru dy wa se (some l0)), (m1, .inl (cI, 50, .inl f1)), (m2, .inl (cI, 72, .inl f2)), (m3, .inl (cJ, 30, .inr (.inl f3))), (l0, .inr (4, [.ref l1, .ref l2, .ref l3, .ref l4])), (l1, .inl (cI, M1, .inl y1_)), (l2, .inl (cI, M2, .inl y2_)), (l3, .inl (cI, M3, .inl y3_)), (l4, .inl (cI, 28, .inl g41))] := hD
      refine lv_aload_n hx hb dX0_tellLaw_149 rfl (lv_at hl 1 rfl) ?_
      refine lv_sipush (v := 1033) hx hb dX0_tellLaw_150 (by decide) ?_
      refine lv_aload_n hx hb dX0_tellLaw_153 rfl (lv_at hl 0 rfl) ?_
      refine lv_iload_n hx hb dX0_tellLaw_154 rfl (lv_at hl 3 rfl) ?_
      refine lv_iconst (v := 0) hx hb dX0_tellLaw_155 (by decide) ?_
      refine kpurei (wc := [(h, oX0 m1 m2 m3 mc sc tx nr ra ru dy wa se (some l0)), (m1, .inl (cI, 50, .inl f1)), (m2, .inl (cI, 72, .inl f2)), (m3, .inl (cJ, 30, .inr (.inl f3)))]) hP hD hS hA [0, 1, 2, 3] rfl (by decide) (fun hPc hDc hFc => va_runV (As := [.int b, .int 0]) (rest := [.int 1033, .ref l0]) ⟨hx, hb, hml, hown, hts⟩ (z_Camp_ofShirt l D cI cJ cB cC h m1 m2 m3 mc sc tx nr ra ru dy wa se (some l0) f1 f2 f3 b 0 H.size) (cwV 2 hts gX0_tellLaw_X0_ofShirt rfl rfl rfl ⟨rfl, hdX0_ofShirt⟩ ⟨Nat.le_of_ble_eq_true rfl, Nat.le_of_ble_eq_true rfl⟩) ⟨kBlind, va_recv hK hPc (ci := 0) (q0 := 0) rfl rfl, fun U hU hW => ⟨rfl, by rw [hU], hN.warm hW, hE.pass hS hFc hW hU, by rw [hU]; exact hPc, va_K.moved hW.alike hK, hDc⟩⟩ rfl rfl hl.1 rfl (lv_room (Nat.le_of_ble_eq_true rfl)) dX0_tellLaw_156 ⟨Nat.le_of_ble_eq_true rfl, Nat.le_of_ble_eq_true rfl⟩) (fun r42 u H locs hw hP hS => ?_)
      refine lv_aload_n hx hb dX0_tellLaw_159 rfl (lv_at hl 0 rfl) ?_
      refine lv_iload_n hx hb dX0_tellLaw_160 rfl (lv_at hl 2 rfl) ?_
      refine lv_iconst (v := 3) hx hb dX0_tellLaw_161 (by decide) ?_
      refine kpurei (wc := [(h, oX0 m1 m2 m3 mc sc tx nr ra ru dy wa se (some l0)), (m1, .inl (cI, 50, .inl f1)), (m2, .inl (cI, 72, .inl f2)), (m3, .inl (cJ, 30, .inr (.inl f3)))]) hP hD hS hA [0, 1, 2, 3] rfl (by decide) (fun hPc hDc hFc => va_runV (As := [.int a, .int 3]) (rest := [.int r42, .int 1033, .ref l0]) ⟨hx, hb, hml, hown, hts⟩ (z_Camp_ofMan l D cI cJ cB cC h m1 m2 m3 mc sc tx nr ra ru dy wa se (some l0) f1 f2 f3 a 3 H.size) (cwV 2 hts gX0_tellLaw_X0_ofMan rfl rfl rfl ⟨rfl, hdX0_ofMan⟩ ⟨Nat.le_of_ble_eq_true rfl, Nat.le_of_ble_eq_true rfl⟩) ⟨kBlind, va_recv hK hPc (ci := 0) (q0 := 0) rfl rfl, fun U hU hW => ⟨rfl, by rw [hU], hN.warm hW, hE.pass hS hFc hW hU, by rw [hU]; exact hPc, va_K.moved hW.alike hK, hDc⟩⟩ rfl rfl hl.1 rfl (lv_room (Nat.le_of_ble_eq_true rfl)) dX0_tellLaw_162 ⟨Nat.le_of_ble_eq_true rfl, Nat.le_of_ble_eq_true rfl⟩) (fun r43 u H locs hw hP hS => ?_)
      refine lv_icmp_ne (tgt := 172) hx hb dX0_tellLaw_165 (by decide) (fun c45 => ?_) (fun c45 => ?_)
      · skip
        refine lv_iconst (v := 0) hx hb dX0_tellLaw_172 (by decide) ?_
        refine kcallv (wc := [(l0, .inr (4, [.ref l1, .ref l2, .ref l3, .ref l4])), (l1, .inl (cI, M1, .inl y1_)), (l2, .inl (cI, M2, .inl y2_)), (l3, .inl (cI, M3, .inl y3_)), (l4, .inl (cI, 28, .inl g41))]) (wr := [(h, oX0 m1 m2 m3 mc sc tx nr ra ru dy wa se (some l0)), (m1, .inl (cI, 50, .inl f1)), (m2, .inl (cI, 72, .inl f2)), (m3, .inl (cJ, 30, .inr (.inl f3)))]) hP hD hS hA [4, 5, 6, 7, 8] [0, 1, 2, 3] rfl rfl (by decide) (by decide) (by decide) (fun hPc hDc hFc => va_runVN (C := RX4) (As := [.int 1033, .int 0]) (rest := []) ⟨hx, hb, hml, hown, hts⟩ (z_Law_tellWhether l D cI cJ cB cC l0 l1 l2 l3 l4 M1 M2 M3 y1_ y2_ y3_ g41 1033 0 H.size (rg_w (rg_lit (n := 0) (by decide)) (by decide))) ⟨va_cnB 2 hts gX0_tellLaw_X4_tellWhether_n148 rfl rfl rfl (nM_22 hN) (hts _ w24_8) hdX4_tellWhether ⟨Nat.le_of_ble_eq_true rfl, Nat.le_of_ble_eq_true rfl⟩, hts (.instanceMethod yX4_tellWhether) (by decide +kernel), hts (.selects RX4 yX4_tellWhether yX4_tellWhether) (by decide +kernel)⟩ ⟨kBlind, va_recv hK hPc (ci := 4) (q0 := 0) rfl rfl, fun U hU hW => ⟨rfl, by rw [hU], hN.warm hW, hE.pass hS hFc hW hU, by rw [hU]; exact hPc, va_K.moved hW.alike hK, hDc⟩⟩ rfl rfl hl.1 rfl (lv_room (Nat.le_of_ble_eq_true rfl)) dX0_tellLaw_173 ⟨Nat.le_of_ble_eq_true rfl, Nat.le_of_ble_eq_true rfl⟩) (fun u H locs hw hP hD hS => ?_)
        obtain ⟨g46, rfl⟩ : ∃ z, z = u := ⟨_, rfl⟩
        have hP : va_P D vwCl [(h, oX0 m1 m2 m3 mc sc tx nr ra ru dy wa se (some l0)), (m1, .inl (cI, 50, .inl f1)), (m2, .inl (cI, 72, .inl f2)), (m3, .inl (cJ, 30, .inr (.inl f3))), (l0, .inr (4, [.ref l1, .ref l2, .ref l3, .ref l4])), (l1, .inl (cI, M1, .inl y1_)), (l2, .inl (cI, M2, .inl y2_)), (l3, .inl (cI, M3, .inl y3_)), (l4, .inl (cI, 28, .inl g46))] H := hP
        have hD : va_D A [(h, oX0 m1 m2 m3 mc sc tx nr ra ru dy wa se (some l0)), (m1, .inl (cI, 50, .inl f1)), (m2, .inl (cI, 72, .inl f2)), (m3, .inl (cJ, 30, .inr (.inl f3))), (l0, .inr (4, [.ref l1, .ref l2, .ref l3, .ref l4])), (l1, .inl (cI, M1, .inl y1_)), (l2, .inl (cI, M2, .inl y2_)), (l3, .inl (cI, M3, .inl y3_)), (l4, .inl (cI, 28, .inl g46))] := hD
        have hP9 := hP.sub (ws' := [(h, oX0 m1 m2 m3 mc sc tx nr ra ru dy wa se (some l0)), (m1, .inl (cI, 50, .inl f1)), (m2, .inl (cI, 72, .inl f2)), (m3, .inl (cJ, 30, .inr (.inl f3))), (l0, .inr (4, [.ref l1, .ref l2, .ref l3, .ref l4])), (l1, .inl (cI, M1, .inl y1_)), (l2, .inl (cI, M2, .inl y2_)), (l3, .inl (cI, M3, .inl y3_)), (l4, .inl (cI, 28, .inl g46))]) [0, 1, 2, 3, 4, 5, 6, 7, 8] rfl
        have hD9 := hD.sub (ws' := [(h, oX0 m1 m2 m3 mc sc tx nr ra ru dy wa se (some l0)), (m1, .inl (cI, 50, .inl f1)), (m2, .inl (cI, 72, .inl f2)), (m3, .inl (cJ, 30, .inr (.inl f3))), (l0, .inr (4, [.ref l1, .ref l2, .ref l3, .ref l4])), (l1, .inl (cI, M1, .inl y1_)), (l2, .inl (cI, M2, .inl y2_)), (l3, .inl (cI, M3, .inl y3_)), (l4, .inl (cI, 28, .inl g46))]) [0, 1, 2, 3, 4, 5, 6, 7, 8] (by decide) rfl
        exact W.vret hx hb hr (fun t ht hW => ⟨⟨(g46), rfl, trivial, by rw [ht]; exact hP9, va_K.moved hW.alike hK, hD9⟩, hS.F ht⟩) hS.2.2 dX0_tellLaw_176
      · skip
        refine lv_iconst (v := 1) hx hb dX0_tellLaw_168 (by decide) ?_
        refine lv_goto (tgt := 173) hx hb dX0_tellLaw_169 (by decide) ?_
        refine kcallv (wc := [(l0, .inr (4, [.ref l1, .ref l2, .ref l3, .ref l4])), (l1, .inl (cI, M1, .inl y1_)), (l2, .inl (cI, M2, .inl y2_)), (l3, .inl (cI, M3, .inl y3_)), (l4, .inl (cI, 28, .inl g41))]) (wr := [(h, oX0 m1 m2 m3 mc sc tx nr ra ru dy wa se (some l0)), (m1, .inl (cI, 50, .inl f1)), (m2, .inl (cI, 72, .inl f2)), (m3, .inl (cJ, 30, .inr (.inl f3)))]) hP hD hS hA [4, 5, 6, 7, 8] [0, 1, 2, 3] rfl rfl (by decide) (by decide) (by decide) (fun hPc hDc hFc => va_runVN (C := RX4) (As := [.int 1033, .int 1]) (rest := []) ⟨hx, hb, hml, hown, hts⟩ (z_Law_tellWhether l D cI cJ cB cC l0 l1 l2 l3 l4 M1 M2 M3 y1_ y2_ y3_ g41 1033 1 H.size (rg_w (rg_lit (n := 1) (by decide)) (by decide))) ⟨va_cnB 2 hts gX0_tellLaw_X4_tellWhether_n148 rfl rfl rfl (nM_22 hN) (hts _ w24_8) hdX4_tellWhether ⟨Nat.le_of_ble_eq_true rfl, Nat.le_of_ble_eq_true rfl⟩, hts (.instanceMethod yX4_tellWhether) (by decide +kernel), hts (.selects RX4 yX4_tellWhether yX4_tellWhether) (by decide +kernel)⟩ ⟨kBlind, va_recv hK hPc (ci := 4) (q0 := 0) rfl rfl, fun U hU hW => ⟨rfl, by rw [hU], hN.warm hW, hE.pass hS hFc hW hU, by rw [hU]; exact hPc, va_K.moved hW.alike hK, hDc⟩⟩ rfl rfl hl.1 rfl (lv_room (Nat.le_of_ble_eq_true rfl)) dX0_tellLaw_173 ⟨Nat.le_of_ble_eq_true rfl, Nat.le_of_ble_eq_true rfl⟩) (fun u H locs hw hP hD hS => ?_)
        obtain ⟨g47, rfl⟩ : ∃ z, z = u := ⟨_, rfl⟩
        have hP : va_P D vwCl [(h, oX0 m1 m2 m3 mc sc tx nr ra ru dy wa se (some l0)), (m1, .inl (cI, 50, .inl f1)), (m2, .inl (cI, 72, .inl f2)), (m3, .inl (cJ, 30, .inr (.inl f3))), (l0, .inr (4, [.ref l1, .ref l2, .ref l3, .ref l4])), (l1, .inl (cI, M1, .inl y1_)), (l2, .inl (cI, M2, .inl y2_)), (l3, .inl (cI, M3, .inl y3_)), (l4, .inl (cI, 28, .inl g47))] H := hP
        have hD : va_D A [(h, oX0 m1 m2 m3 mc sc tx nr ra ru dy wa se (some l0)), (m1, .inl (cI, 50, .inl f1)), (m2, .inl (cI, 72, .inl f2)), (m3, .inl (cJ, 30, .inr (.inl f3))), (l0, .inr (4, [.ref l1, .ref l2, .ref l3, .ref l4])), (l1, .inl (cI, M1, .inl y1_)), (l2, .inl (cI, M2, .inl y2_)), (l3, .inl (cI, M3, .inl y3_)), (l4, .inl (cI, 28, .inl g47))] := hD
        have hP9 := hP.sub (ws' := [(h, oX0 m1 m2 m3 mc sc tx nr ra ru dy wa se (some l0)), (m1, .inl (cI, 50, .inl f1)), (m2, .inl (cI, 72, .inl f2)), (m3, .inl (cJ, 30, .inr (.inl f3))), (l0, .inr (4, [.ref l1, .ref l2, .ref l3, .ref l4])), (l1, .inl (cI, M1, .inl y1_)), (l2, .inl (cI, M2, .inl y2_)), (l3, .inl (cI, M3, .inl y3_)), (l4, .inl (cI, 28, .inl g47))]) [0, 1, 2, 3, 4, 5, 6, 7, 8] rfl
        have hD9 := hD.sub (ws' := [(h, oX0 m1 m2 m3 mc sc tx nr ra ru dy wa se (some l0)), (m1, .inl (cI, 50, .inl f1)), (m2, .inl (cI, 72, .inl f2)), (m3, .inl (cJ, 30, .inr (.inl f3))), (l0, .inr (4, [.ref l1, .ref l2, .ref l3, .ref l4])), (l1, .inl (cI, M1, .inl y1_)), (l2, .inl (cI, M2, .inl y2_)), (l3, .inl (cI, M3, .inl y3_)), (l4, .inl (cI, 28, .inl g47))]) [0, 1, 2, 3, 4, 5, 6, 7, 8] (by decide) rfl
        exact W.vret hx hb hr (fun t ht hW => ⟨⟨(g47), rfl, trivial, by rw [ht]; exact hP9, va_K.moved hW.alike hK, hD9⟩, hS.F ht⟩) hS.2.2 dX0_tellLaw_176
    · skip
      refine kcallv (wc := [(l0, .inr (4, [.ref l1, .ref l2, .ref l3, .ref l4])), (l1, .inl (cI, M1, .inl y1_)), (l2, .inl (cI, M2, .inl y2_)), (l3, .inl (cI, M3, .inl y3_)), (l4, .inl (cI, 28, .inl g38))]) (wr := [(h, oX0 m1 m2 m3 mc sc tx nr ra ru dy wa se (some l0)), (m1, .inl (cI, 50, .inl f1)), (m2, .inl (cI, 72, .inl f2)), (m3, .inl (cJ, 30, .inr (.inl f3)))]) hP hD hS hA [4, 5, 6, 7, 8] [0, 1, 2, 3] rfl rfl (by decide) (by decide) (by decide) (fun hPc hDc hFc => va_runVN (C := RX4) (As := [.int 1032, .int 1]) (rest := []) ⟨hx, hb, hml, hown, hts⟩ (z_Law_tellWhether l D cI cJ cB cC l0 l1 l2 l3 l4 M1 M2 M3 y1_ y2_ y3_ g38 1032 1 H.size (rg_w (rg_lit (n := 1) (by decide)) (by decide))) ⟨va_cnB 2 hts gX0_tellLaw_X4_tellWhether_n148 rfl rfl rfl (nM_22 hN) (hts _ w24_8) hdX4_tellWhether ⟨Nat.le_of_ble_eq_true rfl, Nat.le_of_ble_eq_true rfl⟩, hts (.instanceMethod yX4_tellWhether) (by decide +kernel), hts (.selects RX4 yX4_tellWhether yX4_tellWhether) (by decide +kernel)⟩ ⟨kBlind, va_recv hK hPc (ci := 4) (q0 := 0) rfl rfl, fun U hU hW => ⟨rfl, by rw [hU], hN.warm hW, hE.pass hS hFc hW hU, by rw [hU]; exact hPc, va_K.moved hW.alike hK, hDc⟩⟩ rfl rfl hl.1 rfl (lv_room (Nat.le_of_ble_eq_true rfl)) dX0_tellLaw_146 ⟨Nat.le_of_ble_eq_true rfl, Nat.le_of_ble_eq_true rfl⟩) (fun u H locs hw hP hD hS => ?_)
      obtain ⟨g48, rfl⟩ : ∃ z, z = u := ⟨_, rfl⟩
      have hP : va_P D vwCl [(h, oX0 m1 m2 m3 mc sc tx nr ra ru dy wa se (some l0)), (m1, .inl (cI, 50, .inl f1)), (m2, .inl (cI, 72, .inl f2)), (m3, .inl (cJ, 30, .inr (.inl f3))), (l0, .inr (4, [.ref l1, .ref l2, .ref l3, .ref l4])), (l1, .inl (cI, M1, .inl y1_)), (l2, .inl (cI, M2, .inl y2_)), (l3, .inl (cI, M3, .inl y3_)), (l4, .inl (cI, 28, .inl g48))] H := hP
      have hD : va_D A [(h, oX0 m1 m2 m3 mc sc tx nr ra ru dy wa se (some l0)), (m1, .inl (cI, 50, .inl f1)), (m2, .inl (cI, 72, .inl f2)), (m3, .inl (cJ, 30, .inr (.inl f3))), (l0, .inr (4, [.ref l1, .ref l2, .ref l3, .ref l4])), (l1, .inl (cI, M1, .inl y1_)), (l2, .inl (cI, M2, .inl y2_)), (l3, .inl (cI, M3, .inl y3_)), (l4, .inl (cI, 28, .inl g48))] := hD
      refine lv_aload_n hx hb dX0_tellLaw_149 rfl (lv_at hl 1 rfl) ?_
      refine lv_sipush (v := 1033) hx hb dX0_tellLaw_150 (by decide) ?_
      refine lv_aload_n hx hb dX0_tellLaw_153 rfl (lv_at hl 0 rfl) ?_
      refine lv_iload_n hx hb dX0_tellLaw_154 rfl (lv_at hl 3 rfl) ?_
      refine lv_iconst (v := 0) hx hb dX0_tellLaw_155 (by decide) ?_
      refine kpurei (wc := [(h, oX0 m1 m2 m3 mc sc tx nr ra ru dy wa se (some l0)), (m1, .inl (cI, 50, .inl f1)), (m2, .inl (cI, 72, .inl f2)), (m3, .inl (cJ, 30, .inr (.inl f3)))]) hP hD hS hA [0, 1, 2, 3] rfl (by decide) (fun hPc hDc hFc => va_runV (As := [.int b, .int 0]) (rest := [.int 1033, .ref l0]) ⟨hx, hb, hml, hown, hts⟩ (z_Camp_ofShirt l D cI cJ cB cC h m1 m2 m3 mc sc tx nr ra ru dy wa se (some l0) f1 f2 f3 b 0 H.size) (cwV 2 hts gX0_tellLaw_X0_ofShirt rfl rfl rfl ⟨rfl, hdX0_ofShirt⟩ ⟨Nat.le_of_ble_eq_true rfl, Nat.le_of_ble_eq_true rfl⟩) ⟨kBlind, va_recv hK hPc (ci := 0) (q0 := 0) rfl rfl, fun U hU hW => ⟨rfl, by rw [hU], hN.warm hW, hE.pass hS hFc hW hU, by rw [hU]; exact hPc, va_K.moved hW.alike hK, hDc⟩⟩ rfl rfl hl.1 rfl (lv_room (Nat.le_of_ble_eq_true rfl)) dX0_tellLaw_156 ⟨Nat.le_of_ble_eq_true rfl, Nat.le_of_ble_eq_true rfl⟩) (fun r49 u H locs hw hP hS => ?_)
      refine lv_aload_n hx hb dX0_tellLaw_159 rfl (lv_at hl 0 rfl) ?_
      refine lv_iload_n hx hb dX0_tellLaw_160 rfl (lv_at hl 2 rfl) ?_
      refine lv_iconst (v := 3) hx hb dX0_tellLaw_161 (by decide) ?_
      refine kpurei (wc := [(h, oX0 m1 m2 m3 mc sc tx nr ra ru dy wa se (some l0)), (m1, .inl (cI, 50, .inl f1)), (m2, .inl (cI, 72, .inl f2)), (m3, .inl (cJ, 30, .inr (.inl f3)))]) hP hD hS hA [0, 1, 2, 3] rfl (by decide) (fun hPc hDc hFc => va_runV (As := [.int a, .int 3]) (rest := [.int r49, .int 1033, .ref l0]) ⟨hx, hb, hml, hown, hts⟩ (z_Camp_ofMan l D cI cJ cB cC h m1 m2 m3 mc sc tx nr ra ru dy wa se (some l0) f1 f2 f3 a 3 H.size) (cwV 2 hts gX0_tellLaw_X0_ofMan rfl rfl rfl ⟨rfl, hdX0_ofMan⟩ ⟨Nat.le_of_ble_eq_true rfl, Nat.le_of_ble_eq_true rfl⟩) ⟨kBlind, va_recv hK hPc (ci := 0) (q0 := 0) rfl rfl, fun U hU hW => ⟨rfl, by rw [hU], hN.warm hW, hE.pass hS hFc hW hU, by rw [hU]; exact hPc, va_K.moved hW.alike hK, hDc⟩⟩ rfl rfl hl.1 rfl (lv_room (Nat.le_of_ble_eq_true rfl)) dX0_tellLaw_162 ⟨Nat.le_of_ble_eq_true rfl, Nat.le_of_ble_eq_true rfl⟩) (fun r50 u H locs hw hP hS => ?_)
      refine lv_icmp_ne (tgt := 172) hx hb dX0_tellLaw_165 (by decide) (fun c52 => ?_) (fun c52 => ?_)
      · skip
        refine lv_iconst (v := 0) hx hb dX0_tellLaw_172 (by decide) ?_
        refine kcallv (wc := [(l0, .inr (4, [.ref l1, .ref l2, .ref l3, .ref l4])), (l1, .inl (cI, M1, .inl y1_)), (l2, .inl (cI, M2, .inl y2_)), (l3, .inl (cI, M3, .inl y3_)), (l4, .inl (cI, 28, .inl g48))]) (wr := [(h, oX0 m1 m2 m3 mc sc tx nr ra ru dy wa se (some l0)), (m1, .inl (cI, 50, .inl f1)), (m2, .inl (cI, 72, .inl f2)), (m3, .inl (cJ, 30, .inr (.inl f3)))]) hP hD hS hA [4, 5, 6, 7, 8] [0, 1, 2, 3] rfl rfl (by decide) (by decide) (by decide) (fun hPc hDc hFc => va_runVN (C := RX4) (As := [.int 1033, .int 0]) (rest := []) ⟨hx, hb, hml, hown, hts⟩ (z_Law_tellWhether l D cI cJ cB cC l0 l1 l2 l3 l4 M1 M2 M3 y1_ y2_ y3_ g48 1033 0 H.size (rg_w (rg_lit (n := 0) (by decide)) (by decide))) ⟨va_cnB 2 hts gX0_tellLaw_X4_tellWhether_n148 rfl rfl rfl (nM_22 hN) (hts _ w24_8) hdX4_tellWhether ⟨Nat.le_of_ble_eq_true rfl, Nat.le_of_ble_eq_true rfl⟩, hts (.instanceMethod yX4_tellWhether) (by decide +kernel), hts (.selects RX4 yX4_tellWhether yX4_tellWhether) (by decide +kernel)⟩ ⟨kBlind, va_recv hK hPc (ci := 4) (q0 := 0) rfl rfl, fun U hU hW => ⟨rfl, by rw [hU], hN.warm hW, hE.pass hS hFc hW hU, by rw [hU]; exact hPc, va_K.moved hW.alike hK, hDc⟩⟩ rfl rfl hl.1 rfl (lv_room (Nat.le_of_ble_eq_true rfl)) dX0_tellLaw_173 ⟨Nat.le_of_ble_eq_true rfl, Nat.le_of_ble_eq_true rfl⟩) (fun u H locs hw hP hD hS => ?_)
        obtain ⟨g53, rfl⟩ : ∃ z, z = u := ⟨_, rfl⟩
        have hP : va_P D vwCl [(h, oX0 m1 m2 m3 mc sc tx nr ra ru dy wa se (some l0)), (m1, .inl (cI, 50, .inl f1)), (m2, .inl (cI, 72, .inl f2)), (m3, .inl (cJ, 30, .inr (.inl f3))), (l0, .inr (4, [.ref l1, .ref l2, .ref l3, .ref l4])), (l1, .inl (cI, M1, .inl y1_)), (l2, .inl (cI, M2, .inl y2_)), (l3, .inl (cI, M3, .inl y3_)), (l4, .inl (cI, 28, .inl g53))] H := hP
        have hD : va_D A [(h, oX0 m1 m2 m3 mc sc tx nr ra ru dy wa se (some l0)), (m1, .inl (cI, 50, .inl f1)), (m2, .inl (cI, 72, .inl f2)), (m3, .inl (cJ, 30, .inr (.inl f3))), (l0, .inr (4, [.ref l1, .ref l2, .ref l3, .ref l4])), (l1, .inl (cI, M1, .inl y1_)), (l2, .inl (cI, M2, .inl y2_)), (l3, .inl (cI, M3, .inl y3_)), (l4, .inl (cI, 28, .inl g53))] := hD
        have hP9 := hP.sub (ws' := [(h, oX0 m1 m2 m3 mc sc tx nr ra ru dy wa se (some l0)), (m1, .inl (cI, 50, .inl f1)), (m2, .inl (cI, 72, .inl f2)), (m3, .inl (cJ, 30, .inr (.inl f3))), (l0, .inr (4, [.ref l1, .ref l2, .ref l3, .ref l4])), (l1, .inl (cI, M1, .inl y1_)), (l2, .inl (cI, M2, .inl y2_)), (l3, .inl (cI, M3, .inl y3_)), (l4, .inl (cI, 28, .inl g53))]) [0, 1, 2, 3, 4, 5, 6, 7, 8] rfl
        have hD9 := hD.sub (ws' := [(h, oX0 m1 m2 m3 mc sc tx nr ra ru dy wa se (some l0)), (m1, .inl (cI, 50, .inl f1)), (m2, .inl (cI, 72, .inl f2)), (m3, .inl (cJ, 30, .inr (.inl f3))), (l0, .inr (4, [.ref l1, .ref l2, .ref l3, .ref l4])), (l1, .inl (cI, M1, .inl y1_)), (l2, .inl (cI, M2, .inl y2_)), (l3, .inl (cI, M3, .inl y3_)), (l4, .inl (cI, 28, .inl g53))]) [0, 1, 2, 3, 4, 5, 6, 7, 8] (by decide) rfl
        exact W.vret hx hb hr (fun t ht hW => ⟨⟨(g53), rfl, trivial, by rw [ht]; exact hP9, va_K.moved hW.alike hK, hD9⟩, hS.F ht⟩) hS.2.2 dX0_tellLaw_176
      · skip
        refine lv_iconst (v := 1) hx hb dX0_tellLaw_168 (by decide) ?_
        refine lv_goto (tgt := 173) hx hb dX0_tellLaw_169 (by decide) ?_
        refine kcallv (wc := [(l0, .inr (4, [.ref l1, .ref l2, .ref l3, .ref l4])), (l1, .inl (cI, M1, .inl y1_)), (l2, .inl (cI, M2, .inl y2_)), (l3, .inl (cI, M3, .inl y3_)), (l4, .inl (cI, 28, .inl g48))]) (wr := [(h, oX0 m1 m2 m3 mc sc tx nr ra ru dy wa se (some l0)), (m1, .inl (cI, 50, .inl f1)), (m2, .inl (cI, 72, .inl f2)), (m3, .inl (cJ, 30, .inr (.inl f3)))]) hP hD hS hA [4, 5, 6, 7, 8] [0, 1, 2, 3] rfl rfl (by decide) (by decide) (by decide) (fun hPc hDc hFc => va_runVN (C := RX4) (As := [.int 1033, .int 1]) (rest := []) ⟨hx, hb, hml, hown, hts⟩ (z_Law_tellWhether l D cI cJ cB cC l0 l1 l2 l3 l4 M1 M2 M3 y1_ y2_ y3_ g48 1033 1 H.size (rg_w (rg_lit (n := 1) (by decide)) (by decide))) ⟨va_cnB 2 hts gX0_tellLaw_X4_tellWhether_n148 rfl rfl rfl (nM_22 hN) (hts _ w24_8) hdX4_tellWhether ⟨Nat.le_of_ble_eq_true rfl, Nat.le_of_ble_eq_true rfl⟩, hts (.instanceMethod yX4_tellWhether) (by decide +kernel), hts (.selects RX4 yX4_tellWhether yX4_tellWhether) (by decide +kernel)⟩ ⟨kBlind, va_recv hK hPc (ci := 4) (q0 := 0) rfl rfl, fun U hU hW => ⟨rfl, by rw [hU], hN.warm hW, hE.pass hS hFc hW hU, by rw [hU]; exact hPc, va_K.moved hW.alike hK, hDc⟩⟩ rfl rfl hl.1 rfl (lv_room (Nat.le_of_ble_eq_true rfl)) dX0_tellLaw_173 ⟨Nat.le_of_ble_eq_true rfl, Nat.le_of_ble_eq_true rfl⟩) (fun u H locs hw hP hD hS => ?_)
        obtain ⟨g54, rfl⟩ : ∃ z, z = u := ⟨_, rfl⟩
        have hP : va_P D vwCl [(h, oX0 m1 m2 m3 mc sc tx nr ra ru dy wa se (some l0)), (m1, .inl (cI, 50, .inl f1)), (m2, .inl (cI, 72, .inl f2)), (m3, .inl (cJ, 30, .inr (.inl f3))), (l0, .inr (4, [.ref l1, .ref l2, .ref l3, .ref l4])), (l1, .inl (cI, M1, .inl y1_)), (l2, .inl (cI, M2, .inl y2_)), (l3, .inl (cI, M3, .inl y3_)), (l4, .inl (cI, 28, .inl g54))] H := hP
        have hD : va_D A [(h, oX0 m1 m2 m3 mc sc tx nr ra ru dy wa se (some l0)), (m1, .inl (cI, 50, .inl f1)), (m2, .inl (cI, 72, .inl f2)), (m3, .inl (cJ, 30, .inr (.inl f3))), (l0, .inr (4, [.ref l1, .ref l2, .ref l3, .ref l4])), (l1, .inl (cI, M1, .inl y1_)), (l2, .inl (cI, M2, .inl y2_)), (l3, .inl (cI, M3, .inl y3_)), (l4, .inl (cI, 28, .inl g54))] := hD
        have hP9 := hP.sub (ws' := [(h, oX0 m1 m2 m3 mc sc tx nr ra ru dy wa se (some l0)), (m1, .inl (cI, 50, .inl f1)), (m2, .inl (cI, 72, .inl f2)), (m3, .inl (cJ, 30, .inr (.inl f3))), (l0, .inr (4, [.ref l1, .ref l2, .ref l3, .ref l4])), (l1, .inl (cI, M1, .inl y1_)), (l2, .inl (cI, M2, .inl y2_)), (l3, .inl (cI, M3, .inl y3_)), (l4, .inl (cI, 28, .inl g54))]) [0, 1, 2, 3, 4, 5, 6, 7, 8] rfl
        have hD9 := hD.sub (ws' := [(h, oX0 m1 m2 m3 mc sc tx nr ra ru dy wa se (some l0)), (m1, .inl (cI, 50, .inl f1)), (m2, .inl (cI, 72, .inl f2)), (m3, .inl (cJ, 30, .inr (.inl f3))), (l0, .inr (4, [.ref l1, .ref l2, .ref l3, .ref l4])), (l1, .inl (cI, M1, .inl y1_)), (l2, .inl (cI, M2, .inl y2_)), (l3, .inl (cI, M3, .inl y3_)), (l4, .inl (cI, 28, .inl g54))]) [0, 1, 2, 3, 4, 5, 6, 7, 8] (by decide) rfl
        exact W.vret hx hb hr (fun t ht hW => ⟨⟨(g54), rfl, trivial, by rw [ht]; exact hP9, va_K.moved hW.alike hK, hD9⟩, hS.F ht⟩) hS.2.2 dX0_tellLaw_176

theorem gX0_lawLines_X4_size_n152 : GoodIn kG (kwX4_size) := gK w25_12 gGG
theorem dX0_lawLines_11 : decode cX0_lawLines 11 = .ok (.aload_n 0, 1) := by decide +kernel
theorem dX0_lawLines_12 : decode cX0_lawLines 12 = .ok (.getfield 50, 3) := by decide +kernel
theorem dX0_lawLines_15 : decode cX0_lawLines 15 = .ok (.invokevirtual 152, 3) := by decide +kernel
set_option maxHeartbeats 4000000 in
set_option maxRecDepth 100000 in
/-- Camp.lawLines (s) -/
theorem z_Camp_lawLines_s (l : Launch) (D : va_G) (cI cJ cB cC : ClassId) (h : Nat) (m1 : Nat) (m2 : Nat) (m3 : Nat) (mc : Int32) (sc : Int32) (tx : Int32) (nr : Int32) (ra : Int32) (ru : Int32) (dy : Int32) (wa : Int32) (se : Int32) (f1 : Nat → Int32) (f2 : Nat → Int32) (f3 : Nat → Int64) (l0 : Nat) (l1 : Nat) (l2 : Nat) (l3 : Nat) (l4 : Nat) (M1 : Nat) (M2 : Nat) (M3 : Nat) (y1_ : Nat → Int32) (y2_ : Nat → Int32) (y3_ : Nat → Int32) (y4_ : Nat → Int32) (sz : Nat)  : Met l yX0_lawLines kwX0_lawLines ({ frames := 1, cells := 0, slots := 0, locals := 20 } : Room) (kPre D (kT cI cJ cB cC) sz [(h, oX0 m1 m2 m3 mc sc tx nr ra ru dy wa se (some l0)), (m1, .inl (cI, 50, .inl f1)), (m2, .inl (cI, 72, .inl f2)), (m3, .inl (cJ, 30, .inr (.inl f3))), (l0, .inr (4, [.ref l1, .ref l2, .ref l3, .ref l4])), (l1, .inl (cI, M1, .inl y1_)), (l2, .inl (cI, M2, .inl y2_)), (l3, .inl (cI, M3, .inl y3_)), (l4, .inl (cI, 28, .inl y4_))] [.ref h]) (va_Qi (fun (r : Int32) (_ : Unit) => True) (fun (_ : Unit) (t : State) => kB D (kT cI cJ cB cC) (va_A [(h, oX0 m1 m2 m3 mc sc tx nr ra ru dy wa se (some l0)), (m1, .inl (cI, 50, .inl f1)), (m2, .inl (cI, 72, .inl f2)), (m3, .inl (cJ, 30, .inr (.inl f3))), (l0, .inr (4, [.ref l1, .ref l2, .ref l3, .ref l4])), (l1, .inl (cI, M1, .inl y1_)), (l2, .inl (cI, M2, .inl y2_)), (l3, .inl (cI, M3, .inl y3_)), (l4, .inl (cI, 28, .inl y4_))] sz) [(h, oX0 m1 m2 m3 mc sc tx nr ra ru dy wa se (some l0)), (m1, .inl (cI, 50, .inl f1)), (m2, .inl (cI, 72, .inl f2)), (m3, .inl (cJ, 30, .inr (.inl f3))), (l0, .inr (4, [.ref l1, .ref l2, .ref l3, .ref l4])), (l1, .inl (cI, M1, .inl y1_)), (l2, .inl (cI, M2, .inl y2_)), (l3, .inl (cI, M3, .inl y3_)), (l4, .inl (cI, 28, .inl y4_))] t) (va_A [(h, oX0 m1 m2 m3 mc sc tx nr ra ru dy wa se (some l0)), (m1, .inl (cI, 50, .inl f1)), (m2, .inl (cI, 72, .inl f2)), (m3, .inl (cJ, 30, .inr (.inl f3))), (l0, .inr (4, [.ref l1, .ref l2, .ref l3, .ref l4])), (l1, .inl (cI, M1, .inl y1_)), (l2, .inl (cI, M2, .inl y2_)), (l3, .inl (cI, M3, .inl y3_)), (l4, .inl (cI, 28, .inl y4_))] sz)) 0 0 (va_A [(h, oX0 m1 m2 m3 mc sc tx nr ra ru dy wa se (some l0)), (m1, .inl (cI, 50, .inl f1)), (m2, .inl (cI, 72, .inl f2)), (m3, .inl (cJ, 30, .inr (.inl f3))), (l0, .inr (4, [.ref l1, .ref l2, .ref l3, .ref l4])), (l1, .inl (cI, M1, .inl y1_)), (l2, .inl (cI, M2, .inl y2_)), (l3, .inl (cI, M3, .inl y3_)), (l4, .inl (cI, 28, .inl y4_))] sz) := by
  refine Met.ofW (cc := cX0_lawLines) (maxL := 1) (ret := (some .int)) (by decide) rfl ?_
  intro p e s m args below meth c s₁ B hml hv
  obtain ⟨rfl, hsz, hN, hE, hP, hK, hD0⟩ := hv
  have hx := B.exec
  have hb := B.bytes
  have hr := B.returns
  have hts := fun (w : Cond) (h : w ∈ kG) => atoms_spec (ws := kwX0_lawLines) B.pre w (List.mem_cons_of_mem _ h)
  have hown : s.vm.findClass RX0 = some m.cls := findClass_of_methodNamed B.named
  subst hsz
  have hD := hD0.self (sz := s.heap.size)
  generalize hAe : va_A [(h, oX0 m1 m2 m3 mc sc tx nr ra ru dy wa se (some l0)), (m1, .inl (cI, 50, .inl f1)), (m2, .inl (cI, 72, .inl f2)), (m3, .inl (cJ, 30, .inr (.inl f3))), (l0, .inr (4, [.ref l1, .ref l2, .ref l3, .ref l4])), (l1, .inl (cI, M1, .inl y1_)), (l2, .inl (cI, M2, .inl y2_)), (l3, .inl (cI, M3, .inl y3_)), (l4, .inl (cI, 28, .inl y4_))] s.heap.size = A at hD hE ⊢
  have hA : ∀ q : Nat, s.heap.size ≤ q → A q := fun q h => by rw [← hAe]; exact Or.inr h
  have hl := lv_entry ([.ref h]) (n := 1) (Nat.le_of_ble_eq_true rfl)
  rw [lg_entry_eq]
  generalize (lg_sl ([.ref h]) ++ List.replicate (1 - (lg_sl ([.ref h])).length) Slot.unset).toArray = ls at hl ⊢
  have hl : lv_has ls 1 [(0, .ref h)] := hl
  obtain ⟨H, hH0⟩ : ∃ H, H = s.heap := ⟨_, rfl⟩
  have hS : va_S A s.heap H [] := by rw [hH0]; exact va_S.rf
  have hP : va_P D vwCl [(h, oX0 m1 m2 m3 mc sc tx nr ra ru dy wa se (some l0)), (m1, .inl (cI, 50, .inl f1)), (m2, .inl (cI, 72, .inl f2)), (m3, .inl (cJ, 30, .inr (.inl f3))), (l0, .inr (4, [.ref l1, .ref l2, .ref l3, .ref l4])), (l1, .inl (cI, M1, .inl y1_)), (l2, .inl (cI, M2, .inl y2_)), (l3, .inl (cI, M3, .inl y3_)), (l4, .inl (cI, 28, .inl y4_))] H := by rw [hH0]; exact hP
  refine kHeap hH0 ?_
  clear hH0
  refine lv_aload_n hx hb dX0_lawLines_0 rfl (lv_at hl 0 rfl) ?_
  refine va_get (D := D) (ci := 0) (v := .ref l0) (C := RX0) (T := TX0) (N := 13) hx hb hts iG_X0 hown hK hP 0 rfl rfl 12 (by decide) (hts _ w2_14) (fun _ h9 => h9) rfl dX0_lawLines_1 ?_
  refine lv_ifnonnull (tgt := 11) hx hb dX0_lawLines_4 (by decide) ?_
  refine lv_aload_n hx hb dX0_lawLines_11 rfl (lv_at hl 0 rfl) ?_
  refine va_get (D := D) (ci := 0) (v := .ref l0) (C := RX0) (T := TX0) (N := 13) hx hb hts iG_X0 hown hK hP 0 rfl rfl 12 (by decide) (hts _ w2_14) (fun _ h9 => h9) rfl dX0_lawLines_12 ?_
  refine kpurei (wc := [(l0, .inr (4, [.ref l1, .ref l2, .ref l3, .ref l4])), (l1, .inl (cI, M1, .inl y1_)), (l2, .inl (cI, M2, .inl y2_)), (l3, .inl (cI, M3, .inl y3_)), (l4, .inl (cI, 28, .inl y4_))]) hP hD hS hA [4, 5, 6, 7, 8] rfl (by decide) (fun hPc hDc hFc => va_runVN (C := RX4) (As := []) (rest := []) ⟨hx, hb, hml, hown, hts⟩ (z_Law_size l D cI cJ cB cC l0 l1 l2 l3 l4 M1 M2 M3 y1_ y2_ y3_ y4_ H.size) ⟨va_cnB 0 hts gX0_lawLines_X4_size_n152 rfl rfl rfl (nM_37 hN) (hts _ w24_8) hdX4_size ⟨Nat.le_of_ble_eq_true rfl, Nat.le_of_ble_eq_true rfl⟩, hts (.instanceMethod yX4_size) (by decide +kernel), hts (.selects RX4 yX4_size yX4_size) (by decide +kernel)⟩ ⟨kBlind, va_recv hK hPc (ci := 4) (q0 := 0) rfl rfl, fun U hU hW => ⟨rfl, by rw [hU], hN.warm hW, hE.pass hS hFc hW hU, by rw [hU]; exact hPc, va_K.moved hW.alike hK, hDc⟩⟩ rfl rfl hl.1 rfl (lv_room (Nat.le_of_ble_eq_true rfl)) dX0_lawLines_15 ⟨Nat.le_of_ble_eq_true rfl, Nat.le_of_ble_eq_true rfl⟩) (fun r2 u H locs hw hP hS => ?_)
  have hP9 := hP.sub (ws' := [(h, oX0 m1 m2 m3 mc sc tx nr ra ru dy wa se (some l0)), (m1, .inl (cI, 50, .inl f1)), (m2, .inl (cI, 72, .inl f2)), (m3, .inl (cJ, 30, .inr (.inl f3))), (l0, .inr (4, [.ref l1, .ref l2, .ref l3, .ref l4])), (l1, .inl (cI, M1, .inl y1_)), (l2, .inl (cI, M2, .inl y2_)), (l3, .inl (cI, M3, .inl y3_)), (l4, .inl (cI, 28, .inl y4_))]) [0, 1, 2, 3, 4, 5, 6, 7, 8] rfl
  have hD9 := hD.sub (ws' := [(h, oX0 m1 m2 m3 mc sc tx nr ra ru dy wa se (some l0)), (m1, .inl (cI, 50, .inl f1)), (m2, .inl (cI, 72, .inl f2)), (m3, .inl (cJ, 30, .inr (.inl f3))), (l0, .inr (4, [.ref l1, .ref l2, .ref l3, .ref l4])), (l1, .inl (cI, M1, .inl y1_)), (l2, .inl (cI, M2, .inl y2_)), (l3, .inl (cI, M3, .inl y3_)), (l4, .inl (cI, 28, .inl y4_))]) [0, 1, 2, 3, 4, 5, 6, 7, 8] (by decide) rfl
  exact W.iret (v := r2) hx hb hr (fun t ht hW => ⟨⟨r2, (), rfl, trivial, by rw [ht]; exact hP9, va_K.moved hW.alike hK, hD9⟩, hS.F ht⟩) hS.2.2 dX0_lawLines_18

def kwX0_forbids : List Cond := .code yX0_forbids cX0_forbids 3 (some .boolean) :: kG
theorem hdX0_forbids : yX0_forbids.cls ≠ "java/lang/invoke/MethodHandle" ∧ yX0_forbids.cls ≠ "java/lang/invoke/VarHandle" ∧ (parseMethodDescriptor yX0_forbids.desc).map (fun d => d.parameters.length) = some 2 := by decide +kernel
theorem gX0_forbids_X0_isLastNeighbour : GoodIn kG (wsV RX0 126 RX0 yX0_isLastNeighbour kwX0_isLastNeighbour) := gK w29_2 (gK w29_3 (gK w29_4 (gK w0_19 (gK w29_5 gGG))))
theorem dX0_forbids_0 : decode cX0_forbids 0 = .ok (.aload_n 0, 1) := by decide +kernel
theorem dX0_forbids_1 : decode cX0_forbids 1 = .ok (.getfield 50, 3) := by decide +kernel
theorem dX0_forbids_4 : decode cX0_forbids 4 = .ok (.ifnonnull 10, 3) := by decide +kernel
theorem dX0_forbids_7 : decode cX0_forbids 7 = .ok (.aload_n 0, 1) := by decide +kernel
theorem dX0_forbids_8 : decode cX0_forbids 8 = .ok (.iload_n 1, 1) := by decide +kernel
theorem dX0_forbids_9 : decode cX0_forbids 9 = .ok (.iload_n 2, 1) := by decide +kernel
theorem dX0_forbids_10 : decode cX0_forbids 10 = .ok (.invokevirtual 126, 3) := by decide +kernel
theorem dX0_forbids_13 : decode cX0_forbids 13 = .ok (.ireturn, 1) := by decide +kernel
set_option maxHeartbeats 4000000 in
set_option maxRecDepth 100000 in
/-- Camp.forbids (n) -/
theorem z_Camp_forbids_n (l : Launch) (D : va_G) (cI cJ cB cC : ClassId) (h : Nat) (m1 : Nat) (m2 : Nat) (m3 : Nat) (mc : Int32) (sc : Int32) (tx : Int32) (nr : Int32) (ra : Int32) (ru : Int32) (dy : Int32) (wa : Int32) (se : Int32) (f1 : Nat → Int32) (f2 : Nat → Int32) (f3 : Nat → Int64) (a : Int32) (b : Int32) (sz : Nat)  : Met l yX0_forbids kwX0_forbids ({ frames := 3, cells := 0, slots := 0, locals := 68 } : Room) (kPre D (kT cI cJ cB cC) sz [(h, oX0 m1 m2 m3 mc sc tx nr ra ru dy wa se none), (m1, .inl (cI, 50, .inl f1)), (m2, .inl (cI, 72, .inl f2)), (m3, .inl (cJ, 30, .inr (.inl f3)))] [.ref h, .int a, .int b]) (va_Qi (fun (r : Int32) (_ : Unit) => (r = 0) ∨ (r = 1)) (fun (_ : Unit) (t : State) => kB D (kT cI cJ cB cC) (va_A [(h, oX0 m1 m2 m3 mc sc tx nr ra ru dy wa se none), (m1, .inl (cI, 50, .inl f1)), (m2, .inl (cI, 72, .inl f2)), (m3, .inl (cJ, 30, .inr (.inl f3)))] sz) [(h, oX0 m1 m2 m3 mc sc tx nr ra ru dy wa se none), (m1, .inl (cI, 50, .inl f1)), (m2, .inl (cI, 72, .inl f2)), (m3, .inl (cJ, 30, .inr (.inl f3)))] t) (va_A [(h, oX0 m1 m2 m3 mc sc tx nr ra ru dy wa se none), (m1, .inl (cI, 50, .inl f1)), (m2, .inl (cI, 72, .inl f2)), (m3, .inl (cJ, 30, .inr (.inl f3)))] sz)) 0 0 (va_A [(h, oX0 m1 m2 m3 mc sc tx nr ra ru dy wa se none), (m1, .inl (cI, 50, .inl f1)), (m2, .inl (cI, 72, .inl f2)), (m3, .inl (cJ, 30, .inr (.inl f3)))] sz) := by
  refine Met.ofW (cc := cX0_forbids) (maxL := 3) (ret := (some .boolean)) (by decide) rfl ?_
  intro p e s m args below meth c s₁ B hml hv
  obtain ⟨rfl, hsz, hN, hE, hP, hK, hD0⟩ := hv
  have hx := B.exec
  have hb := B.bytes
  have hr := B.returns
  have hts := fun (w : Cond) (h : w ∈ kG) => atoms_spec (ws := kwX0_forbids) B.pre w (List.mem_cons_of_mem _ h)
  have hown : s.vm.findClass RX0 = some m.cls := findClass_of_methodNamed B.named
  subst hsz
  have hD := hD0.self (sz := s.heap.size)
  generalize hAe : va_A [(h, oX0 m1 m2 m3 mc sc tx nr ra ru dy wa se none), (m1, .inl (cI, 50, .inl f1)), (m2, .inl (cI, 72, .inl f2)), (m3, .inl (cJ, 30, .inr (.inl f3)))] s.heap.size = A at hD hE ⊢
  have hA : ∀ q : Nat, s.heap.size ≤ q → A q := fun q h => by rw [← hAe]; exact Or.inr h
  have hl := lv_entry ([.ref h, .int a, .int b]) (n := 3) (Nat.le_of_ble_eq_true rfl)
  rw [lg_entry_eq]
  generalize (lg_sl ([.ref h, .int a, .int b]) ++ List.replicate (3 - (lg_sl ([.ref h, .int a, .int b])).length) Slot.unset).toArray = ls at hl ⊢
  have hl : lv_has ls 3 [(0, .ref h), (1, .int a), (2, .int b)] := hl
  obtain ⟨H, hH0⟩ : ∃ H, H = s.heap := ⟨_, rfl⟩
  have hS : va_S A s.heap H [] := by rw [hH0]; exact va_S.rf
  have hP : va_P D vwCl [(h, oX0 m1 m2 m3 mc sc tx nr ra ru dy wa se none), (m1, .inl (cI, 50, .inl f1)), (m2, .inl (cI, 72, .inl f2)), (m3, .inl (cJ, 30, .inr (.inl f3)))] H := by rw [hH0]; exact hP
  refine kHeap hH0 ?_
  clear hH0
  refine lv_aload_n hx hb dX0_forbids_0 rfl (lv_at hl 0 rfl) ?_
  refine va_get (D := D) (ci := 0) (v := .null) (C := RX0) (T := TX0) (N := 13) hx hb hts iG_X0 hown hK hP 0 rfl rfl 12 (by decide) (hts _ w2_14) (fun _ h9 => h9) rfl dX0_forbids_1 ?_
  refine lv_ifnonnullN hx hb dX0_forbids_4 ?_
  refine lv_aload_n hx hb dX0_forbids_7 rfl (lv_at hl 0 rfl) ?_
  refine lv_iload_n hx hb dX0_forbids_8 rfl (lv_at hl 1 rfl) ?_
  refine lv_iload_n hx hb dX0_forbids_9 rfl (lv_at hl 2 rfl) ?_
  refine kpurei (wc := [(h, oX0 m1 m2 m3 mc sc tx nr ra ru dy wa se none), (m1, .inl (cI, 50, .inl f1)), (m2, .inl (cI, 72, .inl f2)), (m3, .inl (cJ, 30, .inr (.inl f3)))]) hP hD hS hA [0, 1, 2, 3] rfl (by decide) (fun hPc hDc hFc => va_runV (As := [.int a, .int b]) (rest := []) ⟨hx, hb, hml, hown, hts⟩ (z_Camp_isLastNeighbour l D cI cJ cB cC h m1 m2 m3 mc sc tx nr ra ru dy wa se none f1 f2 f3 a b H.size) (cwV 2 hts gX0_forbids_X0_isLastNeighbour rfl rfl rfl ⟨rfl, hdX0_isLastNeighbour⟩ ⟨Nat.le_of_ble_eq_true rfl, Nat.le_of_ble_eq_true rfl⟩) ⟨kBlind, va_recv hK hPc (ci := 0) (q0 := 0) rfl rfl, fun U hU hW => ⟨rfl, by rw [hU], hN.warm hW, hE.pass hS hFc hW hU, by rw [hU]; exact hPc, va_K.moved hW.alike hK, hDc⟩⟩ rfl rfl hl.1 rfl (lv_room (Nat.le_of_ble_eq_true rfl)) dX0_forbids_10 ⟨Nat.le_of_ble_eq_true rfl, Nat.le_of_ble_eq_true rfl⟩) (fun r1 u H locs hw hP hS => ?_)
  rcases hw with rfl | rfl
  · skip
    have hP9 := hP.sub (ws' := [(h, oX0 m1 m2 m3 mc sc tx nr ra ru dy wa se none), (m1, .inl (cI, 50, .inl f1)), (m2, .inl (cI, 72, .inl f2)), (m3, .inl (cJ, 30, .inr (.inl f3)))]) [0, 1, 2, 3] rfl
    have hD9 := hD.sub (ws' := [(h, oX0 m1 m2 m3 mc sc tx nr ra ru dy wa se none), (m1, .inl (cI, 50, .inl f1)), (m2, .inl (cI, 72, .inl f2)), (m3, .inl (cJ, 30, .inr (.inl f3)))]) [0, 1, 2, 3] (by decide) rfl
    exact W.zret (v := 0) hx hb hr (by decide) (fun t ht hW => ⟨⟨0, (), rfl, (Or.inl rfl), by rw [ht]; exact hP9, va_K.moved hW.alike hK, hD9⟩, hS.F ht⟩) hS.2.2 dX0_forbids_13
  · skip
    have hP9 := hP.sub (ws' := [(h, oX0 m1 m2 m3 mc sc tx nr ra ru dy wa se none), (m1, .inl (cI, 50, .inl f1)), (m2, .inl (cI, 72, .inl f2)), (m3, .inl (cJ, 30, .inr (.inl f3)))]) [0, 1, 2, 3] rfl
    have hD9 := hD.sub (ws' := [(h, oX0 m1 m2 m3 mc sc tx nr ra ru dy wa se none), (m1, .inl (cI, 50, .inl f1)), (m2, .inl (cI, 72, .inl f2)), (m3, .inl (cJ, 30, .inr (.inl f3)))]) [0, 1, 2, 3] (by decide) rfl
    exact W.zret (v := 1) hx hb hr (by decide) (fun t ht hW => ⟨⟨1, (), rfl, (Or.inr rfl), by rw [ht]; exact hP9, va_K.moved hW.alike hK, hD9⟩, hS.F ht⟩) hS.2.2 dX0_forbids_13

def kwX0_priceOf : List Cond := .code yX0_priceOf cX0_priceOf 3 (some .int) :: kG
theorem hdX0_priceOf : yX0_priceOf.cls ≠ "java/lang/invoke/MethodHandle" ∧ yX0_priceOf.cls ≠ "java/lang/invoke/VarHandle" ∧ (parseMethodDescriptor yX0_priceOf.desc).map (fun d => d.parameters.length) = some 2 := by decide +kernel
theorem dX0_priceOf_0 : decode cX0_priceOf 0 = .ok (.aload_n 0, 1) := by decide +kernel
theorem dX0_priceOf_1 : decode cX0_priceOf 1 = .ok (.getfield 50, 3) := by decide +kernel
theorem dX0_priceOf_4 : decode cX0_priceOf 4 = .ok (.ifnonnull 5, 3) := by decide +kernel
theorem dX0_priceOf_7 : decode cX0_priceOf 7 = .ok (.iconst 0, 1) := by decide +kernel
theorem dX0_priceOf_8 : decode cX0_priceOf 8 = .ok (.ireturn, 1) := by decide +kernel
set_option maxHeartbeats 4000000 in
set_option maxRecDepth 100000 in
/-- Camp.priceOf (n) -/
theorem z_Camp_priceOf_n (l : Launch) (D : va_G) (cI cJ cB cC : ClassId) (h : Nat) (m1 : Nat) (m2 : Nat) (m3 : Nat) (mc : Int32) (sc : Int32) (tx : Int32) (nr : Int32) (ra : Int32) (ru : Int32) (dy : Int32) (wa : Int32) (se : Int32) (f1 : Nat → Int32) (f2 : Nat → Int32) (f3 : Nat → Int64) (a : Int32) (b : Int32) (sz : Nat)  : Met l yX0_priceOf kwX0_priceOf ({ frames := 0, cells := 0, slots := 0, locals := 0 } : Room) (kPre D (kT cI cJ cB cC) sz [(h, oX0 m1 m2 m3 mc sc tx nr ra ru dy wa se none), (m1, .inl (cI, 50, .inl f1)), (m2, .inl (cI, 72, .inl f2)), (m3, .inl (cJ, 30, .inr (.inl f3)))] [.ref h, .int a, .int b]) (va_Qi (fun (r : Int32) (_ : Unit) => Rg r 0 0) (fun (_ : Unit) (t : State) => kB D (kT cI cJ cB cC) (va_A [(h, oX0 m1 m2 m3 mc sc tx nr ra ru dy wa se none), (m1, .inl (cI, 50, .inl f1)), (m2, .inl (cI, 72, .inl f2)), (m3, .inl (cJ, 30, .inr (.inl f3)))] sz) [(h, oX0 m1 m2 m3 mc sc tx nr ra ru dy wa se none), (m1, .inl (cI, 50, .inl f1)), (m2, .inl (cI, 72, .inl f2)), (m3, .inl (cJ, 30, .inr (.inl f3)))] t) (va_A [(h, oX0 m1 m2 m3 mc sc tx nr ra ru dy wa se none), (m1, .inl (cI, 50, .inl f1)), (m2, .inl (cI, 72, .inl f2)), (m3, .inl (cJ, 30, .inr (.inl f3)))] sz)) 0 0 (va_A [(h, oX0 m1 m2 m3 mc sc tx nr ra ru dy wa se none), (m1, .inl (cI, 50, .inl f1)), (m2, .inl (cI, 72, .inl f2)), (m3, .inl (cJ, 30, .inr (.inl f3)))] sz) := by
  refine Met.ofW (cc := cX0_priceOf) (maxL := 3) (ret := (some .int)) (by decide) rfl ?_
  intro p e s m args below meth c s₁ B hml hv
  obtain ⟨rfl, hsz, hN, hE, hP, hK, hD0⟩ := hv
  have hx := B.exec
  have hb := B.bytes
  have hr := B.returns
  have hts := fun (w : Cond) (h : w ∈ kG) => atoms_spec (ws := kwX0_priceOf) B.pre w (List.mem_cons_of_mem _ h)
  have hown : s.vm.findClass RX0 = some m.cls := findClass_of_methodNamed B.named
  subst hsz
  have hD := hD0.self (sz := s.heap.size)
  generalize hAe : va_A [(h, oX0 m1 m2 m3 mc sc tx nr ra ru dy wa se none), (m1, .inl (cI, 50, .inl f1)), (m2, .inl (cI, 72, .inl f2)), (m3, .inl (cJ, 30, .inr (.inl f3)))] s.heap.size = A at hD hE ⊢
  have hA : ∀ q : Nat, s.heap.size ≤ q → A q := fun q h => by rw [← hAe]; exact Or.inr h
  have hl := lv_entry ([.ref h, .int a, .int b]) (n := 3) (Nat.le_of_ble_eq_true rfl)
  rw [lg_entry_eq]
  generalize (lg_sl ([.ref h, .int a, .int b]) ++ List.replicate (3 - (lg_sl ([.ref h, .int a, .int b])).length) Slot.unset).toArray = ls at hl ⊢
  have hl : lv_has ls 3 [(0, .ref h), (1, .int a), (2, .int b)] := hl
  obtain ⟨H, hH0⟩ : ∃ H, H = s.heap := ⟨_, rfl⟩
  have hS : va_S A s.heap H [] := by rw [hH0]; exact va_S.rf
  have hP : va_P D vwCl [(h, oX0 m1 m2 m3 mc sc tx nr ra ru dy wa se none), (m1, .inl (cI, 50, .inl f1)), (m2, .inl (cI, 72, .inl f2)), (m3, .inl (cJ, 30, .inr (.inl f3)))] H := by rw [hH0]; exact hP
  refine kHeap hH0 ?_
  clear hH0
  refine lv_aload_n hx hb dX0_priceOf_0 rfl (lv_at hl 0 rfl) ?_
  refine va_get (D := D) (ci := 0) (v := .null) (C := RX0) (T := TX0) (N := 13) hx hb hts iG_X0 hown hK hP 0 rfl rfl 12 (by decide) (hts _ w2_14) (fun _ h9 => h9) rfl dX0_priceOf_1 ?_
  refine lv_ifnonnullN hx hb dX0_priceOf_4 ?_
  refine lv_iconst (v := 0) hx hb dX0_priceOf_7 (by decide) ?_
  have hP9 := hP.sub (ws' := [(h, oX0 m1 m2 m3 mc sc tx nr ra ru dy wa se none), (m1, .inl (cI, 50, .inl f1)), (m2, .inl (cI, 72, .inl f2)), (m3, .inl (cJ, 30, .inr (.inl f3)))]) [0, 1, 2, 3] rfl
  have hD9 := hD.sub (ws' := [(h, oX0 m1 m2 m3 mc sc tx nr ra ru dy wa se none), (m1, .inl (cI, 50, .inl f1)), (m2, .inl (cI, 72, .inl f2)), (m3, .inl (cJ, 30, .inr (.inl f3)))]) [0, 1, 2, 3] (by decide) rfl
  exact W.iret (v := 0) hx hb hr (fun t ht hW => ⟨⟨0, (), rfl, (rg_lit (n := 0) (by decide)), by rw [ht]; exact hP9, va_K.moved hW.alike hK, hD9⟩, hS.F ht⟩) hS.2.2 dX0_priceOf_8

def kwX0_canHave : List Cond := .code yX0_canHave cX0_canHave 3 (some .boolean) :: kG
theorem hdX0_canHave : yX0_canHave.cls ≠ "java/lang/invoke/MethodHandle" ∧ yX0_canHave.cls ≠ "java/lang/invoke/VarHandle" ∧ (parseMethodDescriptor yX0_canHave.desc).map (fun d => d.parameters.length) = some 2 := by decide +kernel
theorem gX0_canHave_X0_forbids : GoodIn kG (wsV RX0 158 RX0 yX0_forbids kwX0_forbids) := gK w45_2 (gK w28_23 (gK w29_0 (gK w0_19 (gK w29_1 gGG))))
theorem gX0_canHave_X0_isInChest : GoodIn kG (wsV RX0 155 RX0 yX0_isInChest kwX0_isInChest) := gK w45_1 (gK w15_7 (gK w15_8 (gK w0_19 (gK w15_9 gGG))))
theorem dX0_canHave_0 : decode cX0_canHave 0 = .ok (.aload_n 0, 1) := by decide +kernel
theorem dX0_canHave_1 : decode cX0_canHave 1 = .ok (.iload_n 2, 1) := by decide +kernel
theorem dX0_canHave_2 : decode cX0_canHave 2 = .ok (.invokevirtual 155, 3) := by decide +kernel
theorem dX0_canHave_5 : decode cX0_canHave 5 = .ok (.ifCond .eq 16, 3) := by decide +kernel
theorem dX0_canHave_8 : decode cX0_canHave 8 = .ok (.aload_n 0, 1) := by decide +kernel
theorem dX0_canHave_9 : decode cX0_canHave 9 = .ok (.iload_n 1, 1) := by decide +kernel
theorem dX0_canHave_10 : decode cX0_canHave 10 = .ok (.iload_n 2, 1) := by decide +kernel
theorem dX0_canHave_11 : decode cX0_canHave 11 = .ok (.invokevirtual 158, 3) := by decide +kernel
theorem dX0_canHave_14 : decode cX0_canHave 14 = .ok (.ifCond .ne 7, 3) := by decide +kernel
theorem dX0_canHave_17 : decode cX0_canHave 17 = .ok (.iconst 1, 1) := by decide +kernel
theorem dX0_canHave_18 : decode cX0_canHave 18 = .ok (.goto 4, 3) := by decide +kernel
theorem dX0_canHave_21 : decode cX0_canHave 21 = .ok (.iconst 0, 1) := by decide +kernel
theorem dX0_canHave_22 : decode cX0_canHave 22 = .ok (.ireturn, 1) := by decide +kernel
set_option maxHeartbeats 4000000 in
set_option maxRecDepth 100000 in
/-- Camp.canHave (n) -/
theorem z_Camp_canHave_n (l : Launch) (D : va_G) (cI cJ cB cC : ClassId) (h : Nat) (m1 : Nat) (m2 : Nat) (m3 : Nat) (mc : Int32) (sc : Int32) (tx : Int32) (nr : Int32) (ra : Int32) (ru : Int32) (dy : Int32) (wa : Int32) (se : Int32) (f1 : Nat → Int32) (f2 : Nat → Int32) (f3 : Nat → Int64) (a : Int32) (b : Int32) (sz : Nat)  : Met l yX0_canHave kwX0_canHave ({ frames := 4, cells := 0, slots := 0, locals := 90 } : Room) (kPre D (kT cI cJ cB cC) sz [(h, oX0 m1 m2 m3 mc sc tx nr ra ru dy wa se none), (m1, .inl (cI, 50, .inl f1)), (m2, .inl (cI, 72, .inl f2)), (m3, .inl (cJ, 30, .inr (.inl f3)))] [.ref h, .int a, .int b]) (va_Qi (fun (r : Int32) (_ : Unit) => (r = 0) ∨ (r = 1)) (fun (_ : Unit) (t : State) => kB D (kT cI cJ cB cC) (va_A [(h, oX0 m1 m2 m3 mc sc tx nr ra ru dy wa se none), (m1, .inl (cI, 50, .inl f1)), (m2, .inl (cI, 72, .inl f2)), (m3, .inl (cJ, 30, .inr (.inl f3)))] sz) [(h, oX0 m1 m2 m3 mc sc tx nr ra ru dy wa se none), (m1, .inl (cI, 50, .inl f1)), (m2, .inl (cI, 72, .inl f2)), (m3, .inl (cJ, 30, .inr (.inl f3)))] t) (va_A [(h, oX0 m1 m2 m3 mc sc tx nr ra ru dy wa se none), (m1, .inl (cI, 50, .inl f1)), (m2, .inl (cI, 72, .inl f2)), (m3, .inl (cJ, 30, .inr (.inl f3)))] sz)) 0 0 (va_A [(h, oX0 m1 m2 m3 mc sc tx nr ra ru dy wa se none), (m1, .inl (cI, 50, .inl f1)), (m2, .inl (cI, 72, .inl f2)), (m3, .inl (cJ, 30, .inr (.inl f3)))] sz) := by
  refine Met.ofW (cc := cX0_canHave) (maxL := 3) (ret := (some .boolean)) (by decide) rfl ?_
  intro p e s m args below meth c s₁ B hml hv
  obtain ⟨rfl, hsz, hN, hE, hP, hK, hD0⟩ := hv
  have hx := B.exec
  have hb := B.bytes
  have hr := B.returns
  have hts := fun (w : Cond) (h : w ∈ kG) => atoms_spec (ws := kwX0_canHave) B.pre w (List.mem_cons_of_mem _ h)
  have hown : s.vm.findClass RX0 = some m.cls := findClass_of_methodNamed B.named
  subst hsz
  have hD := hD0.self (sz := s.heap.size)
  generalize hAe : va_A [(h, oX0 m1 m2 m3 mc sc tx nr ra ru dy wa se none), (m1, .inl (cI, 50, .inl f1)), (m2, .inl (cI, 72, .inl f2)), (m3, .inl (cJ, 30, .inr (.inl f3)))] s.heap.size = A at hD hE ⊢
  have hA : ∀ q : Nat, s.heap.size ≤ q → A q := fun q h => by rw [← hAe]; exact Or.inr h
  have hl := lv_entry ([.ref h, .int a, .int b]) (n := 3) (Nat.le_of_ble_eq_true rfl)
  rw [lg_entry_eq]
  generalize (lg_sl ([.ref h, .int a, .int b]) ++ List.replicate (3 - (lg_sl ([.ref h, .int a, .int b])).length) Slot.unset).toArray = ls at hl ⊢
  have hl : lv_has ls 3 [(0, .ref h), (1, .int a), (2, .int b)] := hl
  obtain ⟨H, hH0⟩ : ∃ H, H = s.heap := ⟨_, rfl⟩
  have hS : va_S A s.heap H [] := by rw [hH0]; exact va_S.rf
  have hP : va_P D vwCl [(h, oX0 m1 m2 m3 mc sc tx nr ra ru dy wa se none), (m1, .inl (cI, 50, .inl f1)), (m2, .inl (cI, 72, .inl f2)), (m3, .inl (cJ, 30, .inr (.inl f3)))] H := by rw [hH0]; exact hP
  refine kHeap hH0 ?_
  clear hH0
  refine lv_aload_n hx hb dX0_canHave_0 rfl (lv_at hl 0 rfl) ?_
  refine lv_iload_n hx hb dX0_canHave_1 rfl (lv_at hl 2 rfl) ?_
  refine kpurei (wc := [(h, oX0 m1 m2 m3 mc sc tx nr ra ru dy wa se none), (m1, .inl (cI, 50, .inl f1)), (m2, .inl (cI, 72, .inl f2)), (m3, .inl (cJ, 30, .inr (.inl f3)))]) hP hD hS hA [0, 1, 2, 3] rfl (by decide) (fun hPc hDc hFc => va_runV (As := [.int b]) (rest := []) ⟨hx, hb, hml, hown, hts⟩ (z_Camp_isInChest l D cI cJ cB cC h m1 m2 m3 mc sc tx nr ra ru dy wa se none f1 f2 f3 b H.size) (cwV 1 hts gX0_canHave_X0_isInChest rfl rfl rfl ⟨rfl, hdX0_isInChest⟩ ⟨Nat.le_of_ble_eq_true rfl, Nat.le_of_ble_eq_true rfl⟩) ⟨kBlind, va_recv hK hPc (ci := 0) (q0 := 0) rfl rfl, fun U hU hW => ⟨rfl, by rw [hU], hN.warm hW, hE.pass hS hFc hW hU, by rw [hU]; exact hPc, va_K.moved hW.alike hK, hDc⟩⟩ rfl rfl hl.1 rfl (lv_room (Nat.le_of_ble_eq_true rfl)) dX0_canHave_2 ⟨Nat.le_of_ble_eq_true rfl, Nat.le_of_ble_eq_true rfl⟩) (fun r1 u H locs hw hP hS => ?_)
  rcases hw with rfl | rfl
  · skip
    refine lv_if_eq (tgt := 21) hx hb dX0_canHave_5 (by decide) (fun _ => ?_) (fun c4 => absurd (by decide) c4)
    refine lv_iconst (v := 0) hx hb dX0_canHave_21 (by decide) ?_
    have hP9 := hP.sub (ws' := [(h, oX0 m1 m2 m3 mc sc tx nr ra ru dy wa se none), (m1, .inl (cI, 50, .inl f1)), (m2, .inl (cI, 72, .inl f2)), (m3, .inl (cJ, 30, .inr (.inl f3)))]) [0, 1, 2, 3] rfl
    have hD9 := hD.sub (ws' := [(h, oX0 m1 m2 m3 mc sc tx nr ra ru dy wa se none), (m1, .inl (cI, 50, .inl f1)), (m2, .inl (cI, 72, .inl f2)), (m3, .inl (cJ, 30, .inr (.inl f3)))]) [0, 1, 2, 3] (by decide) rfl
    exact W.zret (v := 0) hx hb hr (by decide) (fun t ht hW => ⟨⟨0, (), rfl, (Or.inl rfl), by rw [ht]; exact hP9, va_K.moved hW.alike hK, hD9⟩, hS.F ht⟩) hS.2.2 dX0_canHave_22
  · skip
    refine lv_if_eq (tgt := 21) hx hb dX0_canHave_5 (by decide) (fun c10 => absurd c10 (by decide)) (fun _ => ?_)
    refine lv_aload_n hx hb dX0_canHave_8 rfl (lv_at hl 0 rfl) ?_
    refine lv_iload_n hx hb dX0_canHave_9 rfl (lv_at hl 1 rfl) ?_
    refine lv_iload_n hx hb dX0_canHave_10 rfl (lv_at hl 2 rfl) ?_
    refine kpurei (wc := [(h, oX0 m1 m2 m3 mc sc tx nr ra ru dy wa se none), (m1, .inl (cI, 50, .inl f1)), (m2, .inl (cI, 72, .inl f2)), (m3, .inl (cJ, 30, .inr (.inl f3)))]) hP hD hS hA [0, 1, 2, 3] rfl (by decide) (fun hPc hDc hFc => va_runV (As := [.int a, .int b]) (rest := []) ⟨hx, hb, hml, hown, hts⟩ (z_Camp_forbids_n l D cI cJ cB cC h m1 m2 m3 mc sc tx nr ra ru dy wa se f1 f2 f3 a b H.size) (cwV 2 hts gX0_canHave_X0_forbids rfl rfl rfl ⟨rfl, hdX0_forbids⟩ ⟨Nat.le_of_ble_eq_true rfl, Nat.le_of_ble_eq_true rfl⟩) ⟨kBlind, va_recv hK hPc (ci := 0) (q0 := 0) rfl rfl, fun U hU hW => ⟨rfl, by rw [hU], hN.warm hW, hE.pass hS hFc hW hU, by rw [hU]; exact hPc, va_K.moved hW.alike hK, hDc⟩⟩ rfl rfl hl.1 rfl (lv_room (Nat.le_of_ble_eq_true rfl)) dX0_canHave_11 ⟨Nat.le_of_ble_eq_true rfl, Nat.le_of_ble_eq_true rfl⟩) (fun r11 u H locs hw hP hS => ?_)
    rcases hw with rfl | rfl
    · skip
      refine lv_if_ne (tgt := 21) hx hb dX0_canHave_14 (by decide) (fun c13 => absurd (by decide) c13) (fun _ => ?_)
      refine lv_iconst (v := 1) hx hb dX0_canHave_17 (by decide) ?_
      refine lv_goto (tgt := 22) hx hb dX0_canHave_18 (by decide) ?_
      have hP9 := hP.sub (ws' := [(h, oX0 m1 m2 m3 mc sc tx nr ra ru dy wa se none), (m1, .inl (cI, 50, .inl f1)), (m2, .inl (cI, 72, .inl f2)), (m3, .inl (cJ, 30, .inr (.inl f3)))]) [0, 1, 2, 3] rfl
      have hD9 := hD.sub (ws' := [(h, oX0 m1 m2 m3 mc sc tx nr ra ru dy wa se none), (m1, .inl (cI, 50, .inl f1)), (m2, .inl (cI, 72, .inl f2)), (m3, .inl (cJ, 30, .inr (.inl f3)))]) [0, 1, 2, 3] (by decide) rfl
      exact W.zret (v := 1) hx hb hr (by decide) (fun t ht hW => ⟨⟨1, (), rfl, (Or.inr rfl), by rw [ht]; exact hP9, va_K.moved hW.alike hK, hD9⟩, hS.F ht⟩) hS.2.2 dX0_canHave_22
    · skip
      refine lv_if_ne (tgt := 21) hx hb dX0_canHave_14 (by decide) (fun _ => ?_) (fun c14 => absurd c14 (by decide))
      refine lv_iconst (v := 0) hx hb dX0_canHave_21 (by decide) ?_
      have hP9 := hP.sub (ws' := [(h, oX0 m1 m2 m3 mc sc tx nr ra ru dy wa se none), (m1, .inl (cI, 50, .inl f1)), (m2, .inl (cI, 72, .inl f2)), (m3, .inl (cJ, 30, .inr (.inl f3)))]) [0, 1, 2, 3] rfl
      have hD9 := hD.sub (ws' := [(h, oX0 m1 m2 m3 mc sc tx nr ra ru dy wa se none), (m1, .inl (cI, 50, .inl f1)), (m2, .inl (cI, 72, .inl f2)), (m3, .inl (cJ, 30, .inr (.inl f3)))]) [0, 1, 2, 3] (by decide) rfl
      exact W.zret (v := 0) hx hb hr (by decide) (fun t ht hW => ⟨⟨0, (), rfl, (Or.inl rfl), by rw [ht]; exact hP9, va_K.moved hW.alike hK, hD9⟩, hS.F ht⟩) hS.2.2 dX0_canHave_22

def kwX0_handByLot : List Cond := .code yX0_handByLot cX0_handByLot 6 (some .boolean) :: kG
theorem hdX0_handByLot : yX0_handByLot.cls ≠ "java/lang/invoke/MethodHandle" ∧ yX0_handByLot.cls ≠ "java/lang/invoke/VarHandle" ∧ (parseMethodDescriptor yX0_handByLot.desc).map (fun d => d.parameters.length) = some 1 := by decide +kernel
theorem gX0_handByLot_J6_bitCount_0f7a4 : GoodIn kG (va_wsS RX0 163 yJ6_bitCount_0f7a4 kwJ6_bitCount_0f7a4) := gK w45_3 (gK w39_12 (gK w39_13 (gK w39_14 gGG)))
theorem gX0_handByLot_X0_canHave : GoodIn kG (wsV RX0 160 RX0 yX0_canHave kwX0_canHave) := gK w44_21 (gK w44_22 (gK w44_23 (gK w0_19 (gK w45_0 gGG))))
theorem gX0_handByLot_X0_draw : GoodIn kG (wsV RX0 105 RX0 yX0_draw kwX0_draw) := gK w32_21 (gK w32_22 (gK w32_23 (gK w0_19 (gK w33_0 gGG))))
theorem gX0_handByLot_X0_handTo : GoodIn kG (wsV RX0 168 RX0 yX0_handTo kwX0_handTo) := gK w45_4 (gK w35_1 (gK w35_2 (gK w0_19 (gK w35_3 gGG))))
theorem dX0_handByLot_0 : decode cX0_handByLot 0 = .ok (.iconst 0, 1) := by decide +kernel
theorem dX0_handByLot_1 : decode cX0_handByLot 1 = .ok (.istore_n 2, 1) := by decide +kernel
theorem dX0_handByLot_2 : decode cX0_handByLot 2 = .ok (.iconst 0, 1) := by decide +kernel
theorem dX0_handByLot_3 : decode cX0_handByLot 3 = .ok (.istore_n 3, 1) := by decide +kernel
theorem dX0_handByLot_4 : decode cX0_handByLot 4 = .ok (.iload_n 3, 1) := by decide +kernel
theorem dX0_handByLot_5 : decode cX0_handByLot 5 = .ok (.aload_n 0, 1) := by decide +kernel
theorem dX0_handByLot_6 : decode cX0_handByLot 6 = .ok (.getfield 26, 3) := by decide +kernel
theorem dX0_handByLot_9 : decode cX0_handByLot 9 = .ok (.if_icmp .ge 24, 3) := by decide +kernel
theorem dX0_handByLot_12 : decode cX0_handByLot 12 = .ok (.aload_n 0, 1) := by decide +kernel
theorem dX0_handByLot_13 : decode cX0_handByLot 13 = .ok (.iload_n 1, 1) := by decide +kernel
theorem dX0_handByLot_14 : decode cX0_handByLot 14 = .ok (.iload_n 3, 1) := by decide +kernel
theorem dX0_handByLot_15 : decode cX0_handByLot 15 = .ok (.invokevirtual 160, 3) := by decide +kernel
theorem dX0_handByLot_18 : decode cX0_handByLot 18 = .ok (.ifCond .eq 9, 3) := by decide +kernel
theorem dX0_handByLot_21 : decode cX0_handByLot 21 = .ok (.iload_n 2, 1) := by decide +kernel
theorem dX0_handByLot_22 : decode cX0_handByLot 22 = .ok (.iconst 1, 1) := by decide +kernel
theorem dX0_handByLot_23 : decode cX0_handByLot 23 = .ok (.iload_n 3, 1) := by decide +kernel
theorem dX0_handByLot_24 : decode cX0_handByLot 24 = .ok (.ishl, 1) := by decide +kernel
theorem dX0_handByLot_25 : decode cX0_handByLot 25 = .ok (.ior, 1) := by decide +kernel
theorem dX0_handByLot_26 : decode cX0_handByLot 26 = .ok (.istore_n 2, 1) := by decide +kernel
theorem dX0_handByLot_27 : decode cX0_handByLot 27 = .ok (.iinc 3 1, 3) := by decide +kernel
theorem dX0_handByLot_30 : decode cX0_handByLot 30 = .ok (.goto (-26), 3) := by decide +kernel
theorem dX0_handByLot_33 : decode cX0_handByLot 33 = .ok (.iload_n 2, 1) := by decide +kernel
theorem dX0_handByLot_34 : decode cX0_handByLot 34 = .ok (.invokestatic 163, 3) := by decide +kernel
theorem dX0_handByLot_37 : decode cX0_handByLot 37 = .ok (.istore_n 3, 1) := by decide +kernel
theorem dX0_handByLot_38 : decode cX0_handByLot 38 = .ok (.iload_n 3, 1) := by decide +kernel
theorem dX0_handByLot_39 : decode cX0_handByLot 39 = .ok (.ifCond .ne 5, 3) := by decide +kernel
theorem dX0_handByLot_42 : decode cX0_handByLot 42 = .ok (.iconst 0, 1) := by decide +kernel
theorem dX0_handByLot_43 : decode cX0_handByLot 43 = .ok (.ireturn, 1) := by decide +kernel
theorem dX0_handByLot_44 : decode cX0_handByLot 44 = .ok (.aload_n 0, 1) := by decide +kernel
theorem dX0_handByLot_45 : decode cX0_handByLot 45 = .ok (.invokevirtual 105, 3) := by decide +kernel
theorem dX0_handByLot_48 : decode cX0_handByLot 48 = .ok (.iload_n 3, 1) := by decide +kernel
theorem dX0_handByLot_49 : decode cX0_handByLot 49 = .ok (.irem, 1) := by decide +kernel
theorem dX0_handByLot_50 : decode cX0_handByLot 50 = .ok (.istore 4, 2) := by decide +kernel
theorem dX0_handByLot_52 : decode cX0_handByLot 52 = .ok (.iconst 0, 1) := by decide +kernel
theorem dX0_handByLot_53 : decode cX0_handByLot 53 = .ok (.istore 5, 2) := by decide +kernel
theorem dX0_handByLot_55 : decode cX0_handByLot 55 = .ok (.iload 5, 2) := by decide +kernel
theorem dX0_handByLot_57 : decode cX0_handByLot 57 = .ok (.aload_n 0, 1) := by decide +kernel
theorem dX0_handByLot_58 : decode cX0_handByLot 58 = .ok (.getfield 26, 3) := by decide +kernel
theorem dX0_handByLot_61 : decode cX0_handByLot 61 = .ok (.if_icmp .ge 35, 3) := by decide +kernel
theorem dX0_handByLot_64 : decode cX0_handByLot 64 = .ok (.iload_n 2, 1) := by decide +kernel
theorem dX0_handByLot_65 : decode cX0_handByLot 65 = .ok (.iload 5, 2) := by decide +kernel
theorem dX0_handByLot_67 : decode cX0_handByLot 67 = .ok (.ishr, 1) := by decide +kernel
theorem dX0_handByLot_68 : decode cX0_handByLot 68 = .ok (.iconst 1, 1) := by decide +kernel
theorem dX0_handByLot_69 : decode cX0_handByLot 69 = .ok (.iand, 1) := by decide +kernel
theorem dX0_handByLot_70 : decode cX0_handByLot 70 = .ok (.ifCond .eq 20, 3) := by decide +kernel
theorem dX0_handByLot_73 : decode cX0_handByLot 73 = .ok (.iload 4, 2) := by decide +kernel
theorem dX0_handByLot_75 : decode cX0_handByLot 75 = .ok (.ifCond .ne 12, 3) := by decide +kernel
theorem dX0_handByLot_78 : decode cX0_handByLot 78 = .ok (.aload_n 0, 1) := by decide +kernel
theorem dX0_handByLot_79 : decode cX0_handByLot 79 = .ok (.iload_n 1, 1) := by decide +kernel
theorem dX0_handByLot_80 : decode cX0_handByLot 80 = .ok (.iload 5, 2) := by decide +kernel
theorem dX0_handByLot_82 : decode cX0_handByLot 82 = .ok (.invokevirtual 168, 3) := by decide +kernel
theorem dX0_handByLot_85 : decode cX0_handByLot 85 = .ok (.iconst 1, 1) := by decide +kernel
theorem dX0_handByLot_86 : decode cX0_handByLot 86 = .ok (.ireturn, 1) := by decide +kernel
theorem dX0_handByLot_87 : decode cX0_handByLot 87 = .ok (.iinc 4 (-1), 3) := by decide +kernel
theorem dX0_handByLot_90 : decode cX0_handByLot 90 = .ok (.iinc 5 1, 3) := by decide +kernel
theorem dX0_handByLot_93 : decode cX0_handByLot 93 = .ok (.goto (-38), 3) := by decide +kernel
theorem dX0_handByLot_96 : decode cX0_handByLot 96 = .ok (.iconst 0, 1) := by decide +kernel
theorem dX0_handByLot_97 : decode cX0_handByLot 97 = .ok (.ireturn, 1) := by decide +kernel
set_option maxHeartbeats 4000000 in
set_option maxRecDepth 100000 in
/-- Camp.handByLot (n) -/
theorem z_Camp_handByLot_n (l : Launch) (D : va_G) (cI cJ cB cC : ClassId) (h : Nat) (m1 : Nat) (m2 : Nat) (m3 : Nat) (mc : Int32) (sc : Int32) (tx : Int32) (nr : Int32) (ra : Int32) (ru : Int32) (dy : Int32) (wa : Int32) (se : Int32) (f1 : Nat → Int32) (f2 : Nat → Int32) (f3 : Nat → Int64) (a : Int32) (sz : Nat)  : Met l yX0_handByLot kwX0_handByLot ({ frames := 5, cells := 0, slots := 0, locals := 112 } : Room) (kPre D (kT cI cJ cB cC) sz [(h, oX0 m1 m2 m3 mc sc tx nr ra ru dy wa se none), (m1, .inl (cI, 50, .inl f1)), (m2, .inl (cI, 72, .inl f2)), (m3, .inl (cJ, 30, .inr (.inl f3)))] [.ref h, .int a]) (va_Qi (fun (r : Int32) (uu : Int32 × (Nat → Int32) × (Nat → Int32)) => match uu with | (n0_, f1_, f2_) => (r = 0) ∨ (r = 1 ∧ Rg sc 1 2147483647)) (fun (uu : Int32 × (Nat → Int32) × (Nat → Int32)) (t : State) => match uu with | (n0_, f1_, f2_) => kB D (kT cI cJ cB cC) (va_A [(h, oX0 m1 m2 m3 mc sc tx nr ra ru dy wa se none), (m1, .inl (cI, 50, .inl f1)), (m2, .inl (cI, 72, .inl f2)), (m3, .inl (cJ, 30, .inr (.inl f3)))] sz) [(h, oX0 m1 m2 m3 mc sc tx nr ra ru dy wa n0_ none), (m1, .inl (cI, 50, .inl f1_)), (m2, .inl (cI, 72, .inl f2_)), (m3, .inl (cJ, 30, .inr (.inl f3)))] t) (va_A [(h, oX0 m1 m2 m3 mc sc tx nr ra ru dy wa se none), (m1, .inl (cI, 50, .inl f1)), (m2, .inl (cI, 72, .inl f2)), (m3, .inl (cJ, 30, .inr (.inl f3)))] sz)) 0 0 (va_A [(h, oX0 m1 m2 m3 mc sc tx nr ra ru dy wa se none), (m1, .inl (cI, 50, .inl f1)), (m2, .inl (cI, 72, .inl f2)), (m3, .inl (cJ, 30, .inr (.inl f3)))] sz) := by
  refine Met.ofW (cc := cX0_handByLot) (maxL := 6) (ret := (some .boolean)) (by decide) rfl ?_
  intro p e s m args below meth c s₁ B hml hv
  obtain ⟨rfl, hsz, hN, hE, hP, hK, hD0⟩ := hv
  have hx := B.exec
  have hb := B.bytes
  have hr := B.returns
  have hts := fun (w : Cond) (h : w ∈ kG) => atoms_spec (ws := kwX0_handByLot) B.pre w (List.mem_cons_of_mem _ h)
  have hown : s.vm.findClass RX0 = some m.cls := findClass_of_methodNamed B.named
  subst hsz
  have hD := hD0.self (sz := s.heap.size)
  generalize hAe : va_A [(h, oX0 m1 m2 m3 mc sc tx nr ra ru dy wa se none), (m1, .inl (cI, 50, .inl f1)), (m2, .inl (cI, 72, .inl f2)), (m3, .inl (cJ, 30, .inr (.inl f3)))] s.heap.size = A at hD hE ⊢
  have hA : ∀ q : Nat, s.heap.size ≤ q → A q := fun q h => by rw [← hAe]; exact Or.inr h
  have hl := lv_entry ([.ref h, .int a]) (n := 6) (Nat.le_of_ble_eq_true rfl)
  rw [lg_entry_eq]
  generalize (lg_sl ([.ref h, .int a]) ++ List.replicate (6 - (lg_sl ([.ref h, .int a])).length) Slot.unset).toArray = ls at hl ⊢
  have hl : lv_has ls 6 [(0, .ref h), (1, .int a)] := hl
  obtain ⟨H, hH0⟩ : ∃ H, H = s.heap := ⟨_, rfl⟩
  have hS : va_S A s.heap H [] := by rw [hH0]; exact va_S.rf
  have hP : va_P D vwCl [(h, oX0 m1 m2 m3 mc sc tx nr ra ru dy wa se none), (m1, .inl (cI, 50, .inl f1)), (m2, .inl (cI, 72, .inl f2)), (m3, .inl (cJ, 30, .inr (.inl f3)))] H := by rw [hH0]; exact hP
  refine kHeap hH0 ?_
  clear hH0
  refine lv_iconst (v := 0) hx hb dX0_handByLot_0 (by decide) ?_
  refine lv_istore_n (lv' := [(2, .int 0), (0, .ref h), (1, .int a)]) hx hb dX0_handByLot_1 rfl hl (by decide) rfl (fun ls hl => ?_)
  refine lv_iconst (v := 0) hx hb dX0_handByLot_2 (by decide) ?_
  refine lv_istore_n (lv' := [(3, .int 0), (2, .int 0), (0, .ref h), (1, .int a)]) hx hb dX0_handByLot_3 rfl hl (by decide) rfl (fun ls hl => ?_)
  refine k_loop (hd := 4) (fun (u : Int32 × Int32) => match u with | (y132, y133) => (2147483647 - (y132).toInt).toNat) (fun (u : Int32 × Int32) (H : Heap) (locs : List Loc) (ls : Array Slot) => match u with | (y132, y133) => Rg y132 0 2147483647 ∧ va_P D vwCl [(h, oX0 m1 m2 m3 mc sc tx nr ra ru dy wa se none), (m1, .inl (cI, 50, .inl f1)), (m2, .inl (cI, 72, .inl f2)), (m3, .inl (cJ, 30, .inr (.inl f3)))] H ∧ va_D A [(h, oX0 m1 m2 m3 mc sc tx nr ra ru dy wa se none), (m1, .inl (cI, 50, .inl f1)), (m2, .inl (cI, 72, .inl f2)), (m3, .inl (cJ, 30, .inr (.inl f3)))] ∧ va_S A s.heap H locs ∧ lv_has ls 6 [(3, .int y132), (2, .int y133), (0, .ref h), (1, .int a)]) ((0 : Int32), (0 : Int32)) ⟨(rg_w (rg_lit (n := 0) (by decide)) (by decide)), hP.sub (ws' := [(h, oX0 m1 m2 m3 mc sc tx nr ra ru dy wa se none), (m1, .inl (cI, 50, .inl f1)), (m2, .inl (cI, 72, .inl f2)), (m3, .inl (cJ, 30, .inr (.inl f3)))]) [0, 1, 2, 3] rfl, hD.sub (ws' := [(h, oX0 m1 m2 m3 mc sc tx nr ra ru dy wa se none), (m1, .inl (cI, 50, .inl f1)), (m2, .inl (cI, 72, .inl f2)), (m3, .inl (cJ, 30, .inr (.inl f3)))]) [0, 1, 2, 3] (by decide) rfl, hS, lv_sub (l' := [(3, .int 0), (2, .int 0), (0, .ref h), (1, .int a)]) hl [0, 1, 2, 3] rfl⟩ (fun u H locs ls hI ih134 => ?_)
  clear hP hD hS hl
  obtain ⟨y132, y133⟩ := u
  obtain ⟨hy132, hP, hD, hS, hl⟩ := hI
  have hP : va_P D vwCl [(h, oX0 m1 m2 m3 mc sc tx nr ra ru dy wa se none), (m1, .inl (cI, 50, .inl f1)), (m2, .inl (cI, 72, .inl f2)), (m3, .inl (cJ, 30, .inr (.inl f3)))] H := hP
  have hD : va_D A [(h, oX0 m1 m2 m3 mc sc tx nr ra ru dy wa se none), (m1, .inl (cI, 50, .inl f1)), (m2, .inl (cI, 72, .inl f2)), (m3, .inl (cJ, 30, .inr (.inl f3)))] := hD
  have hl : lv_has ls 6 [(3, .int y132), (2, .int y133), (0, .ref h), (1, .int a)] := hl
  refine lv_iload_n hx hb dX0_handByLot_4 rfl (lv_at hl 0 rfl) ?_
  refine lv_aload_n hx hb dX0_handByLot_5 rfl (lv_at hl 2 rfl) ?_
  refine va_get (D := D) (ci := 0) (v := .int sc) (C := RX0) (T := TX0) (N := 13) hx hb hts iG_X0 hown hK hP 0 rfl rfl 4 (by decide) (hts _ w2_6) (fun _ h9 => h9) rfl dX0_handByLot_6 ?_
  refine lv_icmp_ge (tgt := 33) hx hb dX0_handByLot_9 (by decide) (fun c135 => ?_) (fun c135 => ?_)
  · skip
    refine lv_iload_n hx hb dX0_handByLot_33 rfl (lv_at hl 1 rfl) ?_
    refine kpurei (wc := []) hP hD hS hA [] rfl (by decide) (fun hPc hDc hFc => va_runS (As := [.int y133]) (rest := []) ⟨hx, hb, hml, hown, hts⟩ (z_bitCount l D cI cJ cB cC y133 H.size) (va_cwS 1 hts gX0_handByLot_J6_bitCount_0f7a4 rfl rfl rfl hdJ6_bitCount_0f7a4 ⟨Nat.le_of_ble_eq_true rfl, Nat.le_of_ble_eq_true rfl⟩) ⟨kBlind, fun U hU hW => ⟨rfl, by rw [hU], hN.warm hW, hE.pass hS hFc hW hU, by rw [hU]; exact hPc, va_K.moved hW.alike hK, hDc⟩⟩ rfl rfl hl.1 rfl (lv_room (Nat.le_of_ble_eq_true rfl)) dX0_handByLot_34 ⟨Nat.le_of_ble_eq_true rfl, Nat.le_of_ble_eq_true rfl⟩) (fun r136 u H locs hw hP hS => ?_)
    have k137 := hw
    refine lv_istore_n (lv' := [(3, .int r136), (2, .int y133), (0, .ref h), (1, .int a)]) hx hb dX0_handByLot_37 rfl hl (by decide) rfl (fun ls hl => ?_)
    refine lv_iload_n hx hb dX0_handByLot_38 rfl (lv_at hl 0 rfl) ?_
    refine lv_if_ne (tgt := 44) hx hb dX0_handByLot_39 (by decide) (fun c138 => ?_) (fun c138 => ?_)
    · skip
      have k139 : Rg r136 1 63 := rg_n1 (neI c138) k137 (rg_lit (n := 0) (by decide)) (by decide)
      refine lv_aload_n hx hb dX0_handByLot_44 rfl (lv_at hl 2 rfl) ?_
      refine kcalli (wc := [(h, oX0 m1 m2 m3 mc sc tx nr ra ru dy wa se none), (m1, .inl (cI, 50, .inl f1)), (m2, .inl (cI, 72, .inl f2)), (m3, .inl (cJ, 30, .inr (.inl f3)))]) (wr := []) hP hD hS hA [0, 1, 2, 3] [] rfl rfl (by decide) (by decide) (by decide) (fun hPc hDc hFc => va_runV (As := []) (rest := []) ⟨hx, hb, hml, hown, hts⟩ (z_Camp_draw l D cI cJ cB cC h m1 m2 m3 mc sc tx nr ra ru dy wa se none f1 f2 f3 H.size) (cwV 0 hts gX0_handByLot_X0_draw rfl rfl rfl ⟨rfl, hdX0_draw⟩ ⟨Nat.le_of_ble_eq_true rfl, Nat.le_of_ble_eq_true rfl⟩) ⟨kBlind, va_recv hK hPc (ci := 0) (q0 := 0) rfl rfl, fun U hU hW => ⟨rfl, by rw [hU], hN.warm hW, hE.pass hS hFc hW hU, by rw [hU]; exact hPc, va_K.moved hW.alike hK, hDc⟩⟩ rfl rfl hl.1 rfl (lv_room (Nat.le_of_ble_eq_true rfl)) dX0_handByLot_45 ⟨Nat.le_of_ble_eq_true rfl, Nat.le_of_ble_eq_true rfl⟩) (fun r140 u H locs hw hP hD hS => ?_)
      obtain ⟨x141, rfl⟩ : ∃ z, z = u := ⟨_, rfl⟩
      have hP : va_P D vwCl [(h, oX0 m1 m2 m3 mc sc tx nr ra ru dy wa x141 none), (m1, .inl (cI, 50, .inl f1)), (m2, .inl (cI, 72, .inl f2)), (m3, .inl (cJ, 30, .inr (.inl f3)))] H := hP
      have hD : va_D A [(h, oX0 m1 m2 m3 mc sc tx nr ra ru dy wa x141 none), (m1, .inl (cI, 50, .inl f1)), (m2, .inl (cI, 72, .inl f2)), (m3, .inl (cJ, 30, .inr (.inl f3)))] := hD
      have hP : va_P D vwCl [(h, oX0 m1 m2 m3 mc sc tx nr ra ru dy wa x141 none), (m1, .inl (cI, 50, .inl f1)), (m2, .inl (cI, 72, .inl f2)), (m3, .inl (cJ, 30, .inr (.inl f3)))] H := hP
      have hD : va_D A [(h, oX0 m1 m2 m3 mc sc tx nr ra ru dy wa x141 none), (m1, .inl (cI, 50, .inl f1)), (m2, .inl (cI, 72, .inl f2)), (m3, .inl (cJ, 30, .inr (.inl f3)))] := hD
      have k142 := hw
      refine lv_iload_n hx hb dX0_handByLot_48 rfl (lv_at hl 0 rfl) ?_
      refine lv_irem hx hb dX0_handByLot_49 (rg_ne k139 (by decide)) ?_
      refine lv_topi (fun x143 ex143 => ?_)
      have k144 : Rg x143 0 62 := rg_rem ex143 k142 k139 (by decide)
      refine lv_istore (lv' := [(4, .int x143), (3, .int r136), (2, .int y133), (0, .ref h), (1, .int a)]) hx hb dX0_handByLot_50 hl (by decide) rfl (fun ls hl => ?_)
      refine lv_iconst (v := 0) hx hb dX0_handByLot_52 (by decide) ?_
      refine lv_istore (lv' := [(5, .int 0), (4, .int x143), (3, .int r136), (2, .int y133), (0, .ref h), (1, .int a)]) hx hb dX0_handByLot_53 hl (by decide) rfl (fun ls hl => ?_)
      refine k_loop (hd := 55) (fun (u : Int32 × Int32) => match u with | (y312, y313) => (2147483647 - (y312).toInt).toNat) (fun (u : Int32 × Int32) (H : Heap) (locs : List Loc) (ls : Array Slot) => match u with | (y312, y313) => Rg y312 0 2147483647 ∧ Rg y313 0 62 ∧ va_P D vwCl [(h, oX0 m1 m2 m3 mc sc tx nr ra ru dy wa x141 none), (m1, .inl (cI, 50, .inl f1)), (m2, .inl (cI, 72, .inl f2)), (m3, .inl (cJ, 30, .inr (.inl f3)))] H ∧ va_D A [(h, oX0 m1 m2 m3 mc sc tx nr ra ru dy wa x141 none), (m1, .inl (cI, 50, .inl f1)), (m2, .inl (cI, 72, .inl f2)), (m3, .inl (cJ, 30, .inr (.inl f3)))] ∧ va_S A s.heap H locs ∧ lv_has ls 6 [(5, .int y312), (4, .int y313), (3, .int r136), (2, .int y133), (0, .ref h), (1, .int a)]) ((0 : Int32), x143) ⟨(rg_w (rg_lit (n := 0) (by decide)) (by decide)), k144, hP.sub (ws' := [(h, oX0 m1 m2 m3 mc sc tx nr ra ru dy wa x141 none), (m1, .inl (cI, 50, .inl f1)), (m2, .inl (cI, 72, .inl f2)), (m3, .inl (cJ, 30, .inr (.inl f3)))]) [0, 1, 2, 3] rfl, hD.sub (ws' := [(h, oX0 m1 m2 m3 mc sc tx nr ra ru dy wa x141 none), (m1, .inl (cI, 50, .inl f1)), (m2, .inl (cI, 72, .inl f2)), (m3, .inl (cJ, 30, .inr (.inl f3)))]) [0, 1, 2, 3] (by decide) rfl, hS, lv_sub (l' := [(5, .int 0), (4, .int x143), (3, .int r136), (2, .int y133), (0, .ref h), (1, .int a)]) hl [0, 1, 2, 3, 4, 5] rfl⟩ (fun u H locs ls hI ih314 => ?_)
      clear hP hD hS hl
      obtain ⟨y312, y313⟩ := u
      obtain ⟨hy312, hy313, hP, hD, hS, hl⟩ := hI
      have hP : va_P D vwCl [(h, oX0 m1 m2 m3 mc sc tx nr ra ru dy wa x141 none), (m1, .inl (cI, 50, .inl f1)), (m2, .inl (cI, 72, .inl f2)), (m3, .inl (cJ, 30, .inr (.inl f3)))] H := hP
      have hD : va_D A [(h, oX0 m1 m2 m3 mc sc tx nr ra ru dy wa x141 none), (m1, .inl (cI, 50, .inl f1)), (m2, .inl (cI, 72, .inl f2)), (m3, .inl (cJ, 30, .inr (.inl f3)))] := hD
      have hl : lv_has ls 6 [(5, .int y312), (4, .int y313), (3, .int r136), (2, .int y133), (0, .ref h), (1, .int a)] := hl
      refine lv_iload hx hb dX0_handByLot_55 (lv_at hl 0 rfl) ?_
      refine lv_aload_n hx hb dX0_handByLot_57 rfl (lv_at hl 4 rfl) ?_
      refine va_get (D := D) (ci := 0) (v := .int sc) (C := RX0) (T := TX0) (N := 13) hx hb hts iG_X0 hown hK hP 0 rfl rfl 4 (by decide) (hts _ w2_6) (fun _ h9 => h9) rfl dX0_handByLot_58 ?_
      refine lv_icmp_ge (tgt := 96) hx hb dX0_handByLot_61 (by decide) (fun c315 => ?_) (fun c315 => ?_)
      · skip
        refine lv_iconst (v := 0) hx hb dX0_handByLot_96 (by decide) ?_
        have hP9 := hP.sub (ws' := [(h, oX0 m1 m2 m3 mc sc tx nr ra ru dy wa x141 none), (m1, .inl (cI, 50, .inl f1)), (m2, .inl (cI, 72, .inl f2)), (m3, .inl (cJ, 30, .inr (.inl f3)))]) [0, 1, 2, 3] rfl
        have hD9 := hD.sub (ws' := [(h, oX0 m1 m2 m3 mc sc tx nr ra ru dy wa x141 none), (m1, .inl (cI, 50, .inl f1)), (m2, .inl (cI, 72, .inl f2)), (m3, .inl (cJ, 30, .inr (.inl f3)))]) [0, 1, 2, 3] (by decide) rfl
        exact W.zret (v := 0) hx hb hr (by decide) (fun t ht hW => ⟨⟨0, (x141, f1, f2), rfl, (Or.inl rfl), by rw [ht]; exact hP9, va_K.moved hW.alike hK, hD9⟩, hS.F ht⟩) hS.2.2 dX0_handByLot_97
      · skip
        have k316 : Rg y312 0 2147483646 := rg_l1 (nleI c315) hy312 (rg_any sc) (by decide)
        have k317 : Rg sc 1 2147483647 := rg_l2 (nleI c315) hy312 (rg_any sc) (by decide)
        refine lv_iload_n hx hb dX0_handByLot_64 rfl (lv_at hl 3 rfl) ?_
        refine lv_iload hx hb dX0_handByLot_65 (lv_at hl 0 rfl) ?_
        refine lv_ishr hx hb dX0_handByLot_67 ?_
        refine lv_topi (fun x318 ex318 => ?_)
        clear ex318
        refine lv_iconst (v := 1) hx hb dX0_handByLot_68 (by decide) ?_
        refine lv_iand hx hb dX0_handByLot_69 ?_
        refine lv_topi (fun x319 ex319 => ?_)
        have k320 : Rg x319 0 1 := rg_andr ex319 (rg_lit (n := 1) (by decide)) (by decide)
        clear ex319
        refine k_join (hd := 90) (cells2 := 0) (slots2 := 0) (fun (y332 : Int32) => []) (fun (y332 : Int32) (H : Heap) (locs : List Loc) (ls : Array Slot) => Rg y332 0 62 ∧ va_P D vwCl [(h, oX0 m1 m2 m3 mc sc tx nr ra ru dy wa x141 none), (m1, .inl (cI, 50, .inl f1)), (m2, .inl (cI, 72, .inl f2)), (m3, .inl (cJ, 30, .inr (.inl f3)))] H ∧ va_D A [(h, oX0 m1 m2 m3 mc sc tx nr ra ru dy wa x141 none), (m1, .inl (cI, 50, .inl f1)), (m2, .inl (cI, 72, .inl f2)), (m3, .inl (cJ, 30, .inr (.inl f3)))] ∧ va_S A s.heap H locs ∧ lv_has ls 6 [(5, .int y312), (4, .int y332), (3, .int r136), (2, .int y133), (0, .ref h), (1, .int a)]) (fun u H locs ls hI => ?_) (fun hJ90 => ?_)
        · skip
          clear hP hD hS hl
          obtain ⟨y332, rfl⟩ : ∃ z, z = u := ⟨_, rfl⟩
          obtain ⟨hy332, hP, hD, hS, hl⟩ := hI
          have hP : va_P D vwCl [(h, oX0 m1 m2 m3 mc sc tx nr ra ru dy wa x141 none), (m1, .inl (cI, 50, .inl f1)), (m2, .inl (cI, 72, .inl f2)), (m3, .inl (cJ, 30, .inr (.inl f3)))] H := hP
          have hD : va_D A [(h, oX0 m1 m2 m3 mc sc tx nr ra ru dy wa x141 none), (m1, .inl (cI, 50, .inl f1)), (m2, .inl (cI, 72, .inl f2)), (m3, .inl (cJ, 30, .inr (.inl f3)))] := hD
          have hl : lv_has ls 6 [(5, .int y312), (4, .int y332), (3, .int r136), (2, .int y133), (0, .ref h), (1, .int a)] := hl
          obtain ⟨x333, ex333⟩ : ∃ y : Int32, y = y312 + 1 := ⟨_, rfl⟩
          refine lv_iinc (v := x333) (lv' := [(5, .int x333), (4, .int y332), (3, .int r136), (2, .int y133), (0, .ref h), (1, .int a)]) hx hb dX0_handByLot_90 hl (k := 0) rfl (by rw [ex333]; rfl) (by decide) rfl (fun ls hl => ?_)
          have k334 : Rg x333 1 2147483647 := rg_add ex333 k316 (rg_lit (n := 1) (by decide)) (by decide)
          refine lv_goto (tgt := 55) hx hb dX0_handByLot_93 (by decide) ?_
          exact ih314 (x333, y332) _ _ _ (by show (2147483647 - (x333).toInt).toNat < (2147483647 - (y312).toInt).toNat; exact mu_up ex333 k316 k334 (by decide)) ⟨(rg_w k334 (by decide)), hy332, hP.sub (ws' := [(h, oX0 m1 m2 m3 mc sc tx nr ra ru dy wa x141 none), (m1, .inl (cI, 50, .inl f1)), (m2, .inl (cI, 72, .inl f2)), (m3, .inl (cJ, 30, .inr (.inl f3)))]) [0, 1, 2, 3] rfl, hD.sub (ws' := [(h, oX0 m1 m2 m3 mc sc tx nr ra ru dy wa x141 none), (m1, .inl (cI, 50, .inl f1)), (m2, .inl (cI, 72, .inl f2)), (m3, .inl (cJ, 30, .inr (.inl f3)))]) [0, 1, 2, 3] (by decide) rfl, hS, lv_sub (l' := [(5, .int x333), (4, .int y332), (3, .int r136), (2, .int y133), (0, .ref h), (1, .int a)]) hl [0, 1, 2, 3, 4, 5] rfl⟩
        refine lv_if_eq (tgt := 90) hx hb dX0_handByLot_70 (by decide) (fun c335 => ?_) (fun c335 => ?_)
        · skip
          have k336 : Rg x319 0 0 := rg_q1 (eqI c335) k320 (rg_lit (n := 0) (by decide)) (by decide)
          exact hJ90 (y313) _ _ _ ⟨hy313, hP.sub (ws' := [(h, oX0 m1 m2 m3 mc sc tx nr ra ru dy wa x141 none), (m1, .inl (cI, 50, .inl f1)), (m2, .inl (cI, 72, .inl f2)), (m3, .inl (cJ, 30, .inr (.inl f3)))]) [0, 1, 2, 3] rfl, hD.sub (ws' := [(h, oX0 m1 m2 m3 mc sc tx nr ra ru dy wa x141 none), (m1, .inl (cI, 50, .inl f1)), (m2, .inl (cI, 72, .inl f2)), (m3, .inl (cJ, 30, .inr (.inl f3)))]) [0, 1, 2, 3] (by decide) rfl, hS, lv_sub (l' := [(5, .int y312), (4, .int y313), (3, .int r136), (2, .int y133), (0, .ref h), (1, .int a)]) hl [0, 1, 2, 3, 4, 5] rfl⟩
        · skip
          have k337 : Rg x319 1 1 := rg_n1 (neI c335) k320 (rg_lit (n := 0) (by decide)) (by decide)
          refine lv_iload hx hb dX0_handByLot_73 (lv_at hl 1 rfl) ?_
          refine lv_if_ne (tgt := 87) hx hb dX0_handByLot_75 (by decide) (fun c338 => ?_) (fun c338 => ?_)
          · skip
            have k339 : Rg y313 1 62 := rg_n1 (neI c338) hy313 (rg_lit (n := 0) (by decide)) (by decide)
            obtain ⟨x340, ex340⟩ : ∃ y : Int32, y = y313 + (-1) := ⟨_, rfl⟩
            refine lv_iinc (v := x340) (lv' := [(4, .int x340), (5, .int y312), (3, .int r136), (2, .int y133), (0, .ref h), (1, .int a)]) hx hb dX0_handByLot_87 hl (k := 1) rfl (by rw [ex340]; rfl) (by decide) rfl (fun ls hl => ?_)
            have k341 : Rg x340 0 61 := rg_add ex340 k339 (rg_lit (n := -1) (by decide)) (by decide)
            exact hJ90 (x340) _ _ _ ⟨(rg_w k341 (by decide)), hP.sub (ws' := [(h, oX0 m1 m2 m3 mc sc tx nr ra ru dy wa x141 none), (m1, .inl (cI, 50, .inl f1)), (m2, .inl (cI, 72, .inl f2)), (m3, .inl (cJ, 30, .inr (.inl f3)))]) [0, 1, 2, 3] rfl, hD.sub (ws' := [(h, oX0 m1 m2 m3 mc sc tx nr ra ru dy wa x141 none), (m1, .inl (cI, 50, .inl f1)), (m2, .inl (cI, 72, .inl f2)), (m3, .inl (cJ, 30, .inr (.inl f3)))]) [0, 1, 2, 3] (by decide) rfl, hS, lv_sub (l' := [(5, .int y312), (4, .int x340), (3, .int r136), (2, .int y133), (0, .ref h), (1, .int a)]) hl [1, 0, 2, 3, 4, 5] rfl⟩
          · skip
            have k342 : Rg y313 0 0 := rg_q1 (eqI c338) hy313 (rg_lit (n := 0) (by decide)) (by decide)
            refine lv_aload_n hx hb dX0_handByLot_78 rfl (lv_at hl 4 rfl) ?_
            refine lv_iload_n hx hb dX0_handByLot_79 rfl (lv_at hl 5 rfl) ?_
            refine lv_iload hx hb dX0_handByLot_80 (lv_at hl 0 rfl) ?_
            refine kcallv (wc := [(h, oX0 m1 m2 m3 mc sc tx nr ra ru dy wa x141 none), (m1, .inl (cI, 50, .inl f1)), (m2, .inl (cI, 72, .inl f2)), (m3, .inl (cJ, 30, .inr (.inl f3)))]) (wr := []) hP hD hS hA [0, 1, 2, 3] [] rfl rfl (by decide) (by decide) (by decide) (fun hPc hDc hFc => va_runV (As := [.int a, .int y312]) (rest := []) ⟨hx, hb, hml, hown, hts⟩ (z_Camp_handTo l D cI cJ cB cC h m1 m2 m3 mc sc tx nr ra ru dy wa x141 none f1 f2 f3 a y312 H.size) (cwV 2 hts gX0_handByLot_X0_handTo rfl rfl rfl ⟨rfl, hdX0_handTo⟩ ⟨Nat.le_of_ble_eq_true rfl, Nat.le_of_ble_eq_true rfl⟩) ⟨kBlind, va_recv hK hPc (ci := 0) (q0 := 0) rfl rfl, fun U hU hW => ⟨rfl, by rw [hU], hN.warm hW, hE.pass hS hFc hW hU, by rw [hU]; exact hPc, va_K.moved hW.alike hK, hDc⟩⟩ rfl rfl hl.1 rfl (lv_room (Nat.le_of_ble_eq_true rfl)) dX0_handByLot_82 ⟨Nat.le_of_ble_eq_true rfl, Nat.le_of_ble_eq_true rfl⟩) (fun u H locs hw hP hD hS => ?_)
            obtain ⟨g343, g344⟩ := u
            have hP : va_P D vwCl [(h, oX0 m1 m2 m3 mc sc tx nr ra ru dy wa x141 none), (m1, .inl (cI, 50, .inl g343)), (m2, .inl (cI, 72, .inl g344)), (m3, .inl (cJ, 30, .inr (.inl f3)))] H := hP
            have hD : va_D A [(h, oX0 m1 m2 m3 mc sc tx nr ra ru dy wa x141 none), (m1, .inl (cI, 50, .inl g343)), (m2, .inl (cI, 72, .inl g344)), (m3, .inl (cJ, 30, .inr (.inl f3)))] := hD
            have hP : va_P D vwCl [(h, oX0 m1 m2 m3 mc sc tx nr ra ru dy wa x141 none), (m1, .inl (cI, 50, .inl g343)), (m2, .inl (cI, 72, .inl g344)), (m3, .inl (cJ, 30, .inr (.inl f3)))] H := hP
            have hD : va_D A [(h, oX0 m1 m2 m3 mc sc tx nr ra ru dy wa x141 none), (m1, .inl (cI, 50, .inl g343)), (m2, .inl (cI, 72, .inl g344)), (m3, .inl (cJ, 30, .inr (.inl f3)))] := hD
            refine lv_iconst (v := 1) hx hb dX0_handByLot_85 (by decide) ?_
            have hP9 := hP.sub (ws' := [(h, oX0 m1 m2 m3 mc sc tx nr ra ru dy wa x141 none), (m1, .inl (cI, 50, .inl g343)), (m2, .inl (cI, 72, .inl g344)), (m3, .inl (cJ, 30, .inr (.inl f3)))]) [0, 1, 2, 3] rfl
            have hD9 := hD.sub (ws' := [(h, oX0 m1 m2 m3 mc sc tx nr ra ru dy wa x141 none), (m1, .inl (cI, 50, .inl g343)), (m2, .inl (cI, 72, .inl g344)), (m3, .inl (cJ, 30, .inr (.inl f3)))]) [0, 1, 2, 3] (by decide) rfl
            exact W.zret (v := 1) hx hb hr (by decide) (fun t ht hW => ⟨⟨1, (x141, g343, g344), rfl, (Or.inr ⟨rfl, k317⟩), by rw [ht]; exact hP9, va_K.moved hW.alike hK, hD9⟩, hS.F ht⟩) hS.2.2 dX0_handByLot_86
    · skip
      have k345 : Rg r136 0 0 := rg_q1 (eqI c138) k137 (rg_lit (n := 0) (by decide)) (by decide)
      refine lv_iconst (v := 0) hx hb dX0_handByLot_42 (by decide) ?_
      have hP9 := hP.sub (ws' := [(h, oX0 m1 m2 m3 mc sc tx nr ra ru dy wa se none), (m1, .inl (cI, 50, .inl f1)), (m2, .inl (cI, 72, .inl f2)), (m3, .inl (cJ, 30, .inr (.inl f3)))]) [0, 1, 2, 3] rfl
      have hD9 := hD.sub (ws' := [(h, oX0 m1 m2 m3 mc sc tx nr ra ru dy wa se none), (m1, .inl (cI, 50, .inl f1)), (m2, .inl (cI, 72, .inl f2)), (m3, .inl (cJ, 30, .inr (.inl f3)))]) [0, 1, 2, 3] (by decide) rfl
      exact W.zret (v := 0) hx hb hr (by decide) (fun t ht hW => ⟨⟨0, (se, f1, f2), rfl, (Or.inl rfl), by rw [ht]; exact hP9, va_K.moved hW.alike hK, hD9⟩, hS.F ht⟩) hS.2.2 dX0_handByLot_43
  · skip
    have k346 : Rg y132 0 2147483646 := rg_l1 (nleI c135) hy132 (rg_any sc) (by decide)
    have k347 : Rg sc 1 2147483647 := rg_l2 (nleI c135) hy132 (rg_any sc) (by decide)
    refine lv_aload_n hx hb dX0_handByLot_12 rfl (lv_at hl 2 rfl) ?_
    refine lv_iload_n hx hb dX0_handByLot_13 rfl (lv_at hl 3 rfl) ?_
    refine lv_iload_n hx hb dX0_handByLot_14 rfl (lv_at hl 0 rfl) ?_
    refine kpurei (wc := [(h, oX0 m1 m2 m3 mc sc tx nr ra ru dy wa se none), (m1, .inl (cI, 50, .inl f1)), (m2, .inl (cI, 72, .inl f2)), (m3, .inl (cJ, 30, .inr (.inl f3)))]) hP hD hS hA [0, 1, 2, 3] rfl (by decide) (fun hPc hDc hFc => va_runV (As := [.int a, .int y132]) (rest := []) ⟨hx, hb, hml, hown, hts⟩ (z_Camp_canHave_n l D cI cJ cB cC h m1 m2 m3 mc sc tx nr ra ru dy wa se f1 f2 f3 a y132 H.size) (cwV 2 hts gX0_handByLot_X0_canHave rfl rfl rfl ⟨rfl, hdX0_canHave⟩ ⟨Nat.le_of_ble_eq_true rfl, Nat.le_of_ble_eq_true rfl⟩) ⟨kBlind, va_recv hK hPc (ci := 0) (q0 := 0) rfl rfl, fun U hU hW => ⟨rfl, by rw [hU], hN.warm hW, hE.pass hS hFc hW hU, by rw [hU]; exact hPc, va_K.moved hW.alike hK, hDc⟩⟩ rfl rfl hl.1 rfl (lv_room (Nat.le_of_ble_eq_true rfl)) dX0_handByLot_15 ⟨Nat.le_of_ble_eq_true rfl, Nat.le_of_ble_eq_true rfl⟩) (fun r348 u H locs hw hP hS => ?_)
    rcases hw with rfl | rfl
    · skip
      refine lv_if_eq (tgt := 27) hx hb dX0_handByLot_18 (by decide) (fun _ => ?_) (fun c351 => absurd (by decide) c351)
      obtain ⟨x352, ex352⟩ : ∃ y : Int32, y = y132 + 1 := ⟨_, rfl⟩
      refine lv_iinc (v := x352) (lv' := [(3, .int x352), (2, .int y133), (0, .ref h), (1, .int a)]) hx hb dX0_handByLot_27 hl (k := 0) rfl (by rw [ex352]; rfl) (by decide) rfl (fun ls hl => ?_)
      have k353 : Rg x352 1 2147483647 := rg_add ex352 k346 (rg_lit (n := 1) (by decide)) (by decide)
      refine lv_goto (tgt := 4) hx hb dX0_handByLot_30 (by decide) ?_
      exact ih134 (x352, y133) _ _ _ (by show (2147483647 - (x352).toInt).toNat < (2147483647 - (y132).toInt).toNat; exact mu_up ex352 k346 k353 (by decide)) ⟨(rg_w k353 (by decide)), hP.sub (ws' := [(h, oX0 m1 m2 m3 mc sc tx nr ra ru dy wa se none), (m1, .inl (cI, 50, .inl f1)), (m2, .inl (cI, 72, .inl f2)), (m3, .inl (cJ, 30, .inr (.inl f3)))]) [0, 1, 2, 3] rfl, hD.sub (ws' := [(h, oX0 m1 m2 m3 mc sc tx nr ra ru dy wa se none), (m1, .inl (cI, 50, .inl f1)), (m2, .inl (cI, 72, .inl f2)), (m3, .inl (cJ, 30, .inr (.inl f3)))]) [0, 1, 2, 3] (by decide) rfl, hS, lv_sub (l' := [(3, .int x352), (2, .int y133), (0, .ref h), (1, .int a)]) hl [0, 1, 2, 3] rfl⟩
    · skip
      refine lv_if_eq (tgt := 27) hx hb dX0_handByLot_18 (by decide) (fun c357 => absurd c357 (by decide)) (fun _ => ?_)
      refine lv_iload_n hx hb dX0_handByLot_21 rfl (lv_at hl 1 rfl) ?_
      refine lv_iconst (v := 1) hx hb dX0_handByLot_22 (by decide) ?_
      refine lv_iload_n hx hb dX0_handByLot_23 rfl (lv_at hl 0 rfl) ?_
      refine lv_ishl hx hb dX0_handByLot_24 ?_
      refine lv_topi (fun x358 ex358 => ?_)
      clear ex358
      refine lv_ior hx hb dX0_handByLot_25 ?_
      refine lv_topi (fun x359 ex359 => ?_)
      clear ex359
      refine lv_istore_n (lv' := [(2, .int x359), (3, .int y132), (0, .ref h), (1, .int a)]) hx hb dX0_handByLot_26 rfl hl (by decide) rfl (fun ls hl => ?_)
      obtain ⟨x360, ex360⟩ : ∃ y : Int32, y = y132 + 1 := ⟨_, rfl⟩
      refine lv_iinc (v := x360) (lv' := [(3, .int x360), (2, .int x359), (0, .ref h), (1, .int a)]) hx hb dX0_handByLot_27 hl (k := 1) rfl (by rw [ex360]; rfl) (by decide) rfl (fun ls hl => ?_)
      have k361 : Rg x360 1 2147483647 := rg_add ex360 k346 (rg_lit (n := 1) (by decide)) (by decide)
      refine lv_goto (tgt := 4) hx hb dX0_handByLot_30 (by decide) ?_
      exact ih134 (x360, x359) _ _ _ (by show (2147483647 - (x360).toInt).toNat < (2147483647 - (y132).toInt).toNat; exact mu_up ex360 k346 k361 (by decide)) ⟨(rg_w k361 (by decide)), hP.sub (ws' := [(h, oX0 m1 m2 m3 mc sc tx nr ra ru dy wa se none), (m1, .inl (cI, 50, .inl f1)), (m2, .inl (cI, 72, .inl f2)), (m3, .inl (cJ, 30, .inr (.inl f3)))]) [0, 1, 2, 3] rfl, hD.sub (ws' := [(h, oX0 m1 m2 m3 mc sc tx nr ra ru dy wa se none), (m1, .inl (cI, 50, .inl f1)), (m2, .inl (cI, 72, .inl f2)), (m3, .inl (cJ, 30, .inr (.inl f3)))]) [0, 1, 2, 3] (by decide) rfl, hS, lv_sub (l' := [(3, .int x360), (2, .int x359), (0, .ref h), (1, .int a)]) hl [0, 1, 2, 3] rfl⟩

