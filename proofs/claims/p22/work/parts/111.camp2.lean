def kwX0_become : List Cond := .code yX0_become cX0_become 2 none :: kG
theorem hdX0_become : yX0_become.cls ≠ "java/lang/invoke/MethodHandle" ∧ yX0_become.cls ≠ "java/lang/invoke/VarHandle" ∧ (parseMethodDescriptor yX0_become.desc).map (fun d => d.parameters.length) = some 1 := by decide +kernel
theorem dX0_become_0 : decode cX0_become 0 = .ok (.aload_n 1, 1) := by decide +kernel
theorem dX0_become_1 : decode cX0_become 1 = .ok (.getfield 9, 3) := by decide +kernel
theorem dX0_become_4 : decode cX0_become 4 = .ok (.iconst 0, 1) := by decide +kernel
theorem dX0_become_5 : decode cX0_become 5 = .ok (.aload_n 0, 1) := by decide +kernel
theorem dX0_become_6 : decode cX0_become 6 = .ok (.getfield 9, 3) := by decide +kernel
theorem dX0_become_9 : decode cX0_become 9 = .ok (.iconst 0, 1) := by decide +kernel
theorem dX0_become_10 : decode cX0_become 10 = .ok (.aload_n 0, 1) := by decide +kernel
theorem dX0_become_11 : decode cX0_become 11 = .ok (.getfield 9, 3) := by decide +kernel
theorem dX0_become_14 : decode cX0_become 14 = .ok (.arraylength, 1) := by decide +kernel
theorem dX0_become_15 : decode cX0_become 15 = .ok (.invokestatic 54, 3) := by decide +kernel
theorem dX0_become_18 : decode cX0_become 18 = .ok (.aload_n 1, 1) := by decide +kernel
theorem dX0_become_19 : decode cX0_become 19 = .ok (.getfield 15, 3) := by decide +kernel
theorem dX0_become_22 : decode cX0_become 22 = .ok (.iconst 0, 1) := by decide +kernel
theorem dX0_become_23 : decode cX0_become 23 = .ok (.aload_n 0, 1) := by decide +kernel
theorem dX0_become_24 : decode cX0_become 24 = .ok (.getfield 15, 3) := by decide +kernel
theorem dX0_become_27 : decode cX0_become 27 = .ok (.iconst 0, 1) := by decide +kernel
theorem dX0_become_28 : decode cX0_become 28 = .ok (.aload_n 0, 1) := by decide +kernel
theorem dX0_become_29 : decode cX0_become 29 = .ok (.getfield 15, 3) := by decide +kernel
theorem dX0_become_32 : decode cX0_become 32 = .ok (.arraylength, 1) := by decide +kernel
theorem dX0_become_33 : decode cX0_become 33 = .ok (.invokestatic 54, 3) := by decide +kernel
theorem dX0_become_36 : decode cX0_become 36 = .ok (.aload_n 1, 1) := by decide +kernel
theorem dX0_become_37 : decode cX0_become 37 = .ok (.getfield 18, 3) := by decide +kernel
theorem dX0_become_40 : decode cX0_become 40 = .ok (.iconst 0, 1) := by decide +kernel
theorem dX0_become_41 : decode cX0_become 41 = .ok (.aload_n 0, 1) := by decide +kernel
theorem dX0_become_42 : decode cX0_become 42 = .ok (.getfield 18, 3) := by decide +kernel
theorem dX0_become_45 : decode cX0_become 45 = .ok (.iconst 0, 1) := by decide +kernel
theorem dX0_become_46 : decode cX0_become 46 = .ok (.aload_n 0, 1) := by decide +kernel
theorem dX0_become_47 : decode cX0_become 47 = .ok (.getfield 18, 3) := by decide +kernel
theorem dX0_become_50 : decode cX0_become 50 = .ok (.arraylength, 1) := by decide +kernel
theorem dX0_become_51 : decode cX0_become 51 = .ok (.invokestatic 54, 3) := by decide +kernel
theorem dX0_become_54 : decode cX0_become 54 = .ok (.aload_n 0, 1) := by decide +kernel
theorem dX0_become_55 : decode cX0_become 55 = .ok (.aload_n 1, 1) := by decide +kernel
theorem dX0_become_56 : decode cX0_become 56 = .ok (.getfield 22, 3) := by decide +kernel
theorem dX0_become_59 : decode cX0_become 59 = .ok (.putfield 22, 3) := by decide +kernel
theorem dX0_become_62 : decode cX0_become 62 = .ok (.aload_n 0, 1) := by decide +kernel
theorem dX0_become_63 : decode cX0_become 63 = .ok (.aload_n 1, 1) := by decide +kernel
theorem dX0_become_64 : decode cX0_become 64 = .ok (.getfield 26, 3) := by decide +kernel
theorem dX0_become_67 : decode cX0_become 67 = .ok (.putfield 26, 3) := by decide +kernel
theorem dX0_become_70 : decode cX0_become 70 = .ok (.aload_n 0, 1) := by decide +kernel
theorem dX0_become_71 : decode cX0_become 71 = .ok (.aload_n 1, 1) := by decide +kernel
theorem dX0_become_72 : decode cX0_become 72 = .ok (.getfield 29, 3) := by decide +kernel
theorem dX0_become_75 : decode cX0_become 75 = .ok (.putfield 29, 3) := by decide +kernel
theorem dX0_become_78 : decode cX0_become 78 = .ok (.aload_n 0, 1) := by decide +kernel
theorem dX0_become_79 : decode cX0_become 79 = .ok (.aload_n 1, 1) := by decide +kernel
theorem dX0_become_80 : decode cX0_become 80 = .ok (.getfield 32, 3) := by decide +kernel
theorem dX0_become_83 : decode cX0_become 83 = .ok (.putfield 32, 3) := by decide +kernel
theorem dX0_become_86 : decode cX0_become 86 = .ok (.aload_n 0, 1) := by decide +kernel
theorem dX0_become_87 : decode cX0_become 87 = .ok (.aload_n 1, 1) := by decide +kernel
theorem dX0_become_88 : decode cX0_become 88 = .ok (.getfield 35, 3) := by decide +kernel
theorem dX0_become_91 : decode cX0_become 91 = .ok (.putfield 35, 3) := by decide +kernel
theorem dX0_become_94 : decode cX0_become 94 = .ok (.aload_n 0, 1) := by decide +kernel
theorem dX0_become_95 : decode cX0_become 95 = .ok (.aload_n 1, 1) := by decide +kernel
theorem dX0_become_96 : decode cX0_become 96 = .ok (.getfield 38, 3) := by decide +kernel
theorem dX0_become_99 : decode cX0_become 99 = .ok (.putfield 38, 3) := by decide +kernel
theorem dX0_become_102 : decode cX0_become 102 = .ok (.aload_n 0, 1) := by decide +kernel
theorem dX0_become_103 : decode cX0_become 103 = .ok (.aload_n 1, 1) := by decide +kernel
theorem dX0_become_104 : decode cX0_become 104 = .ok (.getfield 41, 3) := by decide +kernel
theorem dX0_become_107 : decode cX0_become 107 = .ok (.putfield 41, 3) := by decide +kernel
theorem dX0_become_110 : decode cX0_become 110 = .ok (.aload_n 0, 1) := by decide +kernel
theorem dX0_become_111 : decode cX0_become 111 = .ok (.aload_n 1, 1) := by decide +kernel
theorem dX0_become_112 : decode cX0_become 112 = .ok (.getfield 44, 3) := by decide +kernel
theorem dX0_become_115 : decode cX0_become 115 = .ok (.putfield 44, 3) := by decide +kernel
theorem dX0_become_118 : decode cX0_become 118 = .ok (.aload_n 0, 1) := by decide +kernel
theorem dX0_become_119 : decode cX0_become 119 = .ok (.aload_n 1, 1) := by decide +kernel
theorem dX0_become_120 : decode cX0_become 120 = .ok (.getfield 47, 3) := by decide +kernel
theorem dX0_become_123 : decode cX0_become 123 = .ok (.putfield 47, 3) := by decide +kernel
theorem dX0_become_126 : decode cX0_become 126 = .ok (.aload_n 0, 1) := by decide +kernel
theorem dX0_become_127 : decode cX0_become 127 = .ok (.aload_n 1, 1) := by decide +kernel
theorem dX0_become_128 : decode cX0_become 128 = .ok (.getfield 50, 3) := by decide +kernel
theorem dX0_become_131 : decode cX0_become 131 = .ok (.putfield 50, 3) := by decide +kernel
theorem dX0_become_134 : decode cX0_become 134 = .ok (.return_, 1) := by decide +kernel
set_option maxHeartbeats 4000000 in
set_option maxRecDepth 100000 in
/-- Camp.become(other) -/
theorem z_Camp_become (l : Launch) (D : va_G) (cI cJ cB cC : ClassId) (h : Nat) (m1 : Nat) (m2 : Nat) (m3 : Nat) (mc : Int32) (sc : Int32) (tx : Int32) (nr : Int32) (ra : Int32) (ru : Int32) (dy : Int32) (wa : Int32) (se : Int32) (lw : Option Nat) (f1 : Nat → Int32) (f2 : Nat → Int32) (f3 : Nat → Int64) (oh : Nat) (om1 : Nat) (om2 : Nat) (om3 : Nat) (omc : Int32) (osc : Int32) (otx : Int32) (onr : Int32) (ora : Int32) (oru : Int32) (ody : Int32) (owa : Int32) (ose : Int32) (olw : Option Nat) (of1 : Nat → Int32) (of2 : Nat → Int32) (of3 : Nat → Int64) (sz : Nat)  : Met l yX0_become kwX0_become ({ frames := 1, cells := 0, slots := 0, locals := 18 } : Room) (kPre D (kT cI cJ cB cC) sz [(h, oX0 m1 m2 m3 mc sc tx nr ra ru dy wa se lw), (m1, kcI cI 50 f1), (m2, kcI cI 72 f2), (m3, kcJ cJ 30 f3), (oh, oX0 om1 om2 om3 omc osc otx onr ora oru ody owa ose olw), (om1, kcI cI 50 of1), (om2, kcI cI 72 of2), (om3, kcJ cJ 30 of3)] [.ref h, .ref oh]) (va_Qv (fun (uu : Int32 × Int32 × Int32 × Int32 × Int32 × Int32 × Int32 × Int32 × Int32 × (Nat → Int32) × (Nat → Int32) × (Nat → Int64)) => match uu with | (n0_, n1_, n2_, n3_, n4_, n5_, n6_, n7_, n8_, f9_, f10_, f11_) => F_z_Camp_become (gT f1) (gT f2) f3 (omc : Int32).toInt (osc : Int32).toInt (otx : Int32).toInt (onr : Int32).toInt (ora : Int32).toInt (oru : Int32).toInt (ody : Int32).toInt (owa : Int32).toInt (ose : Int32).toInt (gT of1) (gT of2) of3 = ((n0_ : Int32).toInt, (n1_ : Int32).toInt, (n2_ : Int32).toInt, (n3_ : Int32).toInt, (n4_ : Int32).toInt, (n5_ : Int32).toInt, (n6_ : Int32).toInt, (n7_ : Int32).toInt, (n8_ : Int32).toInt, (gT f9_), (gT f10_), f11_)) (fun (uu : Int32 × Int32 × Int32 × Int32 × Int32 × Int32 × Int32 × Int32 × Int32 × (Nat → Int32) × (Nat → Int32) × (Nat → Int64)) (t : State) => match uu with | (n0_, n1_, n2_, n3_, n4_, n5_, n6_, n7_, n8_, f9_, f10_, f11_) => kB D (kT cI cJ cB cC) (va_A [(h, oX0 m1 m2 m3 mc sc tx nr ra ru dy wa se lw), (m1, kcI cI 50 f1), (m2, kcI cI 72 f2), (m3, kcJ cJ 30 f3), (oh, oX0 om1 om2 om3 omc osc otx onr ora oru ody owa ose olw), (om1, kcI cI 50 of1), (om2, kcI cI 72 of2), (om3, kcJ cJ 30 of3)] sz) [(h, oX0 m1 m2 m3 n0_ n1_ n2_ n3_ n4_ n5_ n6_ n7_ n8_ olw), (m1, kcI cI 50 f9_), (m2, kcI cI 72 f10_), (m3, kcJ cJ 30 f11_), (oh, oX0 om1 om2 om3 omc osc otx onr ora oru ody owa ose olw), (om1, kcI cI 50 of1), (om2, kcI cI 72 of2), (om3, kcJ cJ 30 of3)] t) (va_A [(h, oX0 m1 m2 m3 mc sc tx nr ra ru dy wa se lw), (m1, kcI cI 50 f1), (m2, kcI cI 72 f2), (m3, kcJ cJ 30 f3), (oh, oX0 om1 om2 om3 omc osc otx onr ora oru ody owa ose olw), (om1, kcI cI 50 of1), (om2, kcI cI 72 of2), (om3, kcJ cJ 30 of3)] sz)) 0 0 (va_A [(h, oX0 m1 m2 m3 mc sc tx nr ra ru dy wa se lw), (m1, kcI cI 50 f1), (m2, kcI cI 72 f2), (m3, kcJ cJ 30 f3), (oh, oX0 om1 om2 om3 omc osc otx onr ora oru ody owa ose olw), (om1, kcI cI 50 of1), (om2, kcI cI 72 of2), (om3, kcJ cJ 30 of3)] sz) := by
  refine Met.ofW (cc := cX0_become) (maxL := 2) (ret := none) (by decide) rfl ?_
  intro p e s m args below meth c s₁ B hml hv
  obtain ⟨rfl, hsz, hN, hE, hP, hK, hD0⟩ := hv
  have hx := B.exec
  have hb := B.bytes
  have hr := B.returns
  have hts := fun (w : Cond) (h : w ∈ kG) => atoms_spec (ws := kwX0_become) B.pre w (List.mem_cons_of_mem _ h)
  have hown : s.vm.findClass RX0 = some m.cls := findClass_of_methodNamed B.named
  subst hsz
  have hD := hD0.self (sz := s.heap.size)
  generalize hAe : va_A [(h, oX0 m1 m2 m3 mc sc tx nr ra ru dy wa se lw), (m1, kcI cI 50 f1), (m2, kcI cI 72 f2), (m3, kcJ cJ 30 f3), (oh, oX0 om1 om2 om3 omc osc otx onr ora oru ody owa ose olw), (om1, kcI cI 50 of1), (om2, kcI cI 72 of2), (om3, kcJ cJ 30 of3)] s.heap.size = A at hD hE ⊢
  have hA : ∀ q : Nat, s.heap.size ≤ q → A q := fun q h => by rw [← hAe]; exact Or.inr h
  have hl := lv_entry ([.ref h, .ref oh]) (n := 2) (Nat.le_of_ble_eq_true rfl)
  rw [lg_entry_eq]
  generalize (lg_sl ([.ref h, .ref oh]) ++ List.replicate (2 - (lg_sl ([.ref h, .ref oh])).length) Slot.unset).toArray = ls at hl ⊢
  have hl : lv_has ls 2 [(0, .ref h), (1, .ref oh)] := hl
  obtain ⟨H, hH0⟩ : ∃ H, H = s.heap := ⟨_, rfl⟩
  have hS : va_S A s.heap H [] := by rw [hH0]; exact va_S.rf
  have hP : va_P D vwCl [(h, oX0 m1 m2 m3 mc sc tx nr ra ru dy wa se lw), (m1, kcI cI 50 f1), (m2, kcI cI 72 f2), (m3, kcJ cJ 30 f3), (oh, oX0 om1 om2 om3 omc osc otx onr ora oru ody owa ose olw), (om1, kcI cI 50 of1), (om2, kcI cI 72 of2), (om3, kcJ cJ 30 of3)] H := by rw [hH0]; exact hP
  refine kHeap hH0 ?_
  clear hH0
  refine lv_aload_n hx hb dX0_become_0 rfl (lv_at hl 1 rfl) ?_
  refine va_get (D := D) (ci := 0) (v := .ref om1) (C := RX0) (T := TX0) (N := 13) hx hb hts iG_X0 hown hK hP 4 rfl rfl 0 (by decide) (hts _ w2_2) (fun _ h9 => h9) rfl dX0_become_1 ?_
  refine lv_iconst (v := 0) hx hb dX0_become_4 (by decide) ?_
  refine lv_aload_n hx hb dX0_become_5 rfl (lv_at hl 0 rfl) ?_
  refine va_get (D := D) (ci := 0) (v := .ref m1) (C := RX0) (T := TX0) (N := 13) hx hb hts iG_X0 hown hK hP 0 rfl rfl 0 (by decide) (hts _ w2_2) (fun _ h9 => h9) rfl dX0_become_6 ?_
  refine lv_iconst (v := 0) hx hb dX0_become_9 (by decide) ?_
  refine lv_aload_n hx hb dX0_become_10 rfl (lv_at hl 0 rfl) ?_
  refine va_get (D := D) (ci := 0) (v := .ref m1) (C := RX0) (T := TX0) (N := 13) hx hb hts iG_X0 hown hK hP 0 rfl rfl 0 (by decide) (hts _ w2_2) (fun _ h9 => h9) rfl dX0_become_11 ?_
  refine va_alen (v := 50) hx hb hK hP 1 0 rfl rfl rfl dX0_become_14 ?_
  refine va_copyi hx hb (by rw [hml]; exact hl.1.symm) hown (hts _ w7_22) (hts _ w7_23) (hts _ w8_0) (hts _ w8_1) hK hP hD hS 5 1 0 0 rfl rfl rfl rfl rfl (by decide) (by decide) (by decide) (by decide) (by decide) (fun _ _ => rfl) (Nat.le_of_ble_eq_true rfl) (Nat.le_of_ble_eq_true rfl) dX0_become_15 (fun H locs hP hD hS => ?_)
  have hP : va_P D vwCl [(h, oX0 m1 m2 m3 mc sc tx nr ra ru dy wa se lw), (m1, kcI cI 50 (va_cpy of1 f1 (0 : Int32).toNatClampNeg (0 : Int32).toNatClampNeg (50 : Int32).toNatClampNeg)), (m2, kcI cI 72 f2), (m3, kcJ cJ 30 f3), (oh, oX0 om1 om2 om3 omc osc otx onr ora oru ody owa ose olw), (om1, kcI cI 50 of1), (om2, kcI cI 72 of2), (om3, kcJ cJ 30 of3)] H := hP
  have hD : va_D A [(h, oX0 m1 m2 m3 mc sc tx nr ra ru dy wa se lw), (m1, kcI cI 50 (va_cpy of1 f1 (0 : Int32).toNatClampNeg (0 : Int32).toNatClampNeg (50 : Int32).toNatClampNeg)), (m2, kcI cI 72 f2), (m3, kcJ cJ 30 f3), (oh, oX0 om1 om2 om3 omc osc otx onr ora oru ody owa ose olw), (om1, kcI cI 50 of1), (om2, kcI cI 72 of2), (om3, kcJ cJ 30 of3)] := hD
  generalize hg1 : (va_cpy of1 f1 (0 : Int32).toNatClampNeg (0 : Int32).toNatClampNeg (50 : Int32).toNatClampNeg) = g1 at hP hD
  refine lv_aload_n hx hb dX0_become_18 rfl (lv_at hl 1 rfl) ?_
  refine va_get (D := D) (ci := 0) (v := .ref om2) (C := RX0) (T := TX0) (N := 13) hx hb hts iG_X0 hown hK hP 4 rfl rfl 1 (by decide) (hts _ w2_3) (fun _ h9 => h9) rfl dX0_become_19 ?_
  refine lv_iconst (v := 0) hx hb dX0_become_22 (by decide) ?_
  refine lv_aload_n hx hb dX0_become_23 rfl (lv_at hl 0 rfl) ?_
  refine va_get (D := D) (ci := 0) (v := .ref m2) (C := RX0) (T := TX0) (N := 13) hx hb hts iG_X0 hown hK hP 0 rfl rfl 1 (by decide) (hts _ w2_3) (fun _ h9 => h9) rfl dX0_become_24 ?_
  refine lv_iconst (v := 0) hx hb dX0_become_27 (by decide) ?_
  refine lv_aload_n hx hb dX0_become_28 rfl (lv_at hl 0 rfl) ?_
  refine va_get (D := D) (ci := 0) (v := .ref m2) (C := RX0) (T := TX0) (N := 13) hx hb hts iG_X0 hown hK hP 0 rfl rfl 1 (by decide) (hts _ w2_3) (fun _ h9 => h9) rfl dX0_become_29 ?_
  refine va_alen (v := 72) hx hb hK hP 2 0 rfl rfl rfl dX0_become_32 ?_
  refine va_copyi hx hb (by rw [hml]; exact hl.1.symm) hown (hts _ w7_22) (hts _ w7_23) (hts _ w8_0) (hts _ w8_1) hK hP hD hS 6 2 0 0 rfl rfl rfl rfl rfl (by decide) (by decide) (by decide) (by decide) (by decide) (fun _ _ => rfl) (Nat.le_of_ble_eq_true rfl) (Nat.le_of_ble_eq_true rfl) dX0_become_33 (fun H locs hP hD hS => ?_)
  have hP : va_P D vwCl [(h, oX0 m1 m2 m3 mc sc tx nr ra ru dy wa se lw), (m1, kcI cI 50 g1), (m2, kcI cI 72 (va_cpy of2 f2 (0 : Int32).toNatClampNeg (0 : Int32).toNatClampNeg (72 : Int32).toNatClampNeg)), (m3, kcJ cJ 30 f3), (oh, oX0 om1 om2 om3 omc osc otx onr ora oru ody owa ose olw), (om1, kcI cI 50 of1), (om2, kcI cI 72 of2), (om3, kcJ cJ 30 of3)] H := hP
  have hD : va_D A [(h, oX0 m1 m2 m3 mc sc tx nr ra ru dy wa se lw), (m1, kcI cI 50 g1), (m2, kcI cI 72 (va_cpy of2 f2 (0 : Int32).toNatClampNeg (0 : Int32).toNatClampNeg (72 : Int32).toNatClampNeg)), (m3, kcJ cJ 30 f3), (oh, oX0 om1 om2 om3 omc osc otx onr ora oru ody owa ose olw), (om1, kcI cI 50 of1), (om2, kcI cI 72 of2), (om3, kcJ cJ 30 of3)] := hD
  generalize hg3 : (va_cpy of2 f2 (0 : Int32).toNatClampNeg (0 : Int32).toNatClampNeg (72 : Int32).toNatClampNeg) = g3 at hP hD
  refine lv_aload_n hx hb dX0_become_36 rfl (lv_at hl 1 rfl) ?_
  refine va_get (D := D) (ci := 0) (v := .ref om3) (C := RX0) (T := TX0) (N := 13) hx hb hts iG_X0 hown hK hP 4 rfl rfl 2 (by decide) (hts _ w2_4) (fun _ h9 => h9) rfl dX0_become_37 ?_
  refine lv_iconst (v := 0) hx hb dX0_become_40 (by decide) ?_
  refine lv_aload_n hx hb dX0_become_41 rfl (lv_at hl 0 rfl) ?_
  refine va_get (D := D) (ci := 0) (v := .ref m3) (C := RX0) (T := TX0) (N := 13) hx hb hts iG_X0 hown hK hP 0 rfl rfl 2 (by decide) (hts _ w2_4) (fun _ h9 => h9) rfl dX0_become_42 ?_
  refine lv_iconst (v := 0) hx hb dX0_become_45 (by decide) ?_
  refine lv_aload_n hx hb dX0_become_46 rfl (lv_at hl 0 rfl) ?_
  refine va_get (D := D) (ci := 0) (v := .ref m3) (C := RX0) (T := TX0) (N := 13) hx hb hts iG_X0 hown hK hP 0 rfl rfl 2 (by decide) (hts _ w2_4) (fun _ h9 => h9) rfl dX0_become_47 ?_
  refine va_alen (v := 30) hx hb hK hP 3 1 rfl rfl rfl dX0_become_50 ?_
  refine va_copyl hx hb (by rw [hml]; exact hl.1.symm) hown (hts _ w7_22) (hts _ w7_23) (hts _ w8_0) (hts _ w8_1) hK hP hD hS 7 3 1 1 rfl rfl rfl rfl rfl (by decide) (by decide) (by decide) (by decide) (by decide) (fun _ _ => rfl) (Nat.le_of_ble_eq_true rfl) (Nat.le_of_ble_eq_true rfl) dX0_become_51 (fun H locs hP hD hS => ?_)
  have hP : va_P D vwCl [(h, oX0 m1 m2 m3 mc sc tx nr ra ru dy wa se lw), (m1, kcI cI 50 g1), (m2, kcI cI 72 g3), (m3, kcJ cJ 30 (va_cpy of3 f3 (0 : Int32).toNatClampNeg (0 : Int32).toNatClampNeg (30 : Int32).toNatClampNeg)), (oh, oX0 om1 om2 om3 omc osc otx onr ora oru ody owa ose olw), (om1, kcI cI 50 of1), (om2, kcI cI 72 of2), (om3, kcJ cJ 30 of3)] H := hP
  have hD : va_D A [(h, oX0 m1 m2 m3 mc sc tx nr ra ru dy wa se lw), (m1, kcI cI 50 g1), (m2, kcI cI 72 g3), (m3, kcJ cJ 30 (va_cpy of3 f3 (0 : Int32).toNatClampNeg (0 : Int32).toNatClampNeg (30 : Int32).toNatClampNeg)), (oh, oX0 om1 om2 om3 omc osc otx onr ora oru ody owa ose olw), (om1, kcI cI 50 of1), (om2, kcI cI 72 of2), (om3, kcJ cJ 30 of3)] := hD
  generalize hg5 : (va_cpy of3 f3 (0 : Int32).toNatClampNeg (0 : Int32).toNatClampNeg (30 : Int32).toNatClampNeg) = g5 at hP hD
  refine lv_aload_n hx hb dX0_become_54 rfl (lv_at hl 0 rfl) ?_
  refine lv_aload_n hx hb dX0_become_55 rfl (lv_at hl 1 rfl) ?_
  refine va_get (D := D) (ci := 0) (v := .int omc) (C := RX0) (T := TX0) (N := 13) hx hb hts iG_X0 hown hK hP 4 rfl rfl 3 (by decide) (hts _ w2_5) (fun _ h9 => h9) rfl dX0_become_56 ?_
  refine va_put (D := D) (ci := 0) (v := .int omc) (ty := .int) (C := RX0) (T := TX0) (N := 13) hx hb hts iG_X0 tyX0 tyX0_ok nmX0 hown hK hP hD hS 0 rfl rfl 3 (by decide) (hts _ w2_5) (fun _ h9 => h9) rfl (by decide +kernel) rfl rfl (Nat.le_of_ble_eq_true rfl) dX0_become_59 (fun H locs hP hD hS => ?_)
  have hP : va_P D vwCl [(h, oX0 m1 m2 m3 omc sc tx nr ra ru dy wa se lw), (m1, kcI cI 50 g1), (m2, kcI cI 72 g3), (m3, kcJ cJ 30 g5), (oh, oX0 om1 om2 om3 omc osc otx onr ora oru ody owa ose olw), (om1, kcI cI 50 of1), (om2, kcI cI 72 of2), (om3, kcJ cJ 30 of3)] H := hP
  have hD : va_D A [(h, oX0 m1 m2 m3 omc sc tx nr ra ru dy wa se lw), (m1, kcI cI 50 g1), (m2, kcI cI 72 g3), (m3, kcJ cJ 30 g5), (oh, oX0 om1 om2 om3 omc osc otx onr ora oru ody owa ose olw), (om1, kcI cI 50 of1), (om2, kcI cI 72 of2), (om3, kcJ cJ 30 of3)] := hD
  refine lv_aload_n hx hb dX0_become_62 rfl (lv_at hl 0 rfl) ?_
  refine lv_aload_n hx hb dX0_become_63 rfl (lv_at hl 1 rfl) ?_
  refine va_get (D := D) (ci := 0) (v := .int osc) (C := RX0) (T := TX0) (N := 13) hx hb hts iG_X0 hown hK hP 4 rfl rfl 4 (by decide) (hts _ w2_6) (fun _ h9 => h9) rfl dX0_become_64 ?_
  refine va_put (D := D) (ci := 0) (v := .int osc) (ty := .int) (C := RX0) (T := TX0) (N := 13) hx hb hts iG_X0 tyX0 tyX0_ok nmX0 hown hK hP hD hS 0 rfl rfl 4 (by decide) (hts _ w2_6) (fun _ h9 => h9) rfl (by decide +kernel) rfl rfl (Nat.le_of_ble_eq_true rfl) dX0_become_67 (fun H locs hP hD hS => ?_)
  have hP : va_P D vwCl [(h, oX0 m1 m2 m3 omc osc tx nr ra ru dy wa se lw), (m1, kcI cI 50 g1), (m2, kcI cI 72 g3), (m3, kcJ cJ 30 g5), (oh, oX0 om1 om2 om3 omc osc otx onr ora oru ody owa ose olw), (om1, kcI cI 50 of1), (om2, kcI cI 72 of2), (om3, kcJ cJ 30 of3)] H := hP
  have hD : va_D A [(h, oX0 m1 m2 m3 omc osc tx nr ra ru dy wa se lw), (m1, kcI cI 50 g1), (m2, kcI cI 72 g3), (m3, kcJ cJ 30 g5), (oh, oX0 om1 om2 om3 omc osc otx onr ora oru ody owa ose olw), (om1, kcI cI 50 of1), (om2, kcI cI 72 of2), (om3, kcJ cJ 30 of3)] := hD
  refine lv_aload_n hx hb dX0_become_70 rfl (lv_at hl 0 rfl) ?_
  refine lv_aload_n hx hb dX0_become_71 rfl (lv_at hl 1 rfl) ?_
  refine va_get (D := D) (ci := 0) (v := .int otx) (C := RX0) (T := TX0) (N := 13) hx hb hts iG_X0 hown hK hP 4 rfl rfl 5 (by decide) (hts _ w2_7) (fun _ h9 => h9) rfl dX0_become_72 ?_
  refine va_put (D := D) (ci := 0) (v := .int otx) (ty := .int) (C := RX0) (T := TX0) (N := 13) hx hb hts iG_X0 tyX0 tyX0_ok nmX0 hown hK hP hD hS 0 rfl rfl 5 (by decide) (hts _ w2_7) (fun _ h9 => h9) rfl (by decide +kernel) rfl rfl (Nat.le_of_ble_eq_true rfl) dX0_become_75 (fun H locs hP hD hS => ?_)
  have hP : va_P D vwCl [(h, oX0 m1 m2 m3 omc osc otx nr ra ru dy wa se lw), (m1, kcI cI 50 g1), (m2, kcI cI 72 g3), (m3, kcJ cJ 30 g5), (oh, oX0 om1 om2 om3 omc osc otx onr ora oru ody owa ose olw), (om1, kcI cI 50 of1), (om2, kcI cI 72 of2), (om3, kcJ cJ 30 of3)] H := hP
  have hD : va_D A [(h, oX0 m1 m2 m3 omc osc otx nr ra ru dy wa se lw), (m1, kcI cI 50 g1), (m2, kcI cI 72 g3), (m3, kcJ cJ 30 g5), (oh, oX0 om1 om2 om3 omc osc otx onr ora oru ody owa ose olw), (om1, kcI cI 50 of1), (om2, kcI cI 72 of2), (om3, kcJ cJ 30 of3)] := hD
  refine lv_aload_n hx hb dX0_become_78 rfl (lv_at hl 0 rfl) ?_
  refine lv_aload_n hx hb dX0_become_79 rfl (lv_at hl 1 rfl) ?_
  refine va_get (D := D) (ci := 0) (v := .int onr) (C := RX0) (T := TX0) (N := 13) hx hb hts iG_X0 hown hK hP 4 rfl rfl 6 (by decide) (hts _ w2_8) (fun _ h9 => h9) rfl dX0_become_80 ?_
  refine va_put (D := D) (ci := 0) (v := .int onr) (ty := .int) (C := RX0) (T := TX0) (N := 13) hx hb hts iG_X0 tyX0 tyX0_ok nmX0 hown hK hP hD hS 0 rfl rfl 6 (by decide) (hts _ w2_8) (fun _ h9 => h9) rfl (by decide +kernel) rfl rfl (Nat.le_of_ble_eq_true rfl) dX0_become_83 (fun H locs hP hD hS => ?_)
  have hP : va_P D vwCl [(h, oX0 m1 m2 m3 omc osc otx onr ra ru dy wa se lw), (m1, kcI cI 50 g1), (m2, kcI cI 72 g3), (m3, kcJ cJ 30 g5), (oh, oX0 om1 om2 om3 omc osc otx onr ora oru ody owa ose olw), (om1, kcI cI 50 of1), (om2, kcI cI 72 of2), (om3, kcJ cJ 30 of3)] H := hP
  have hD : va_D A [(h, oX0 m1 m2 m3 omc osc otx onr ra ru dy wa se lw), (m1, kcI cI 50 g1), (m2, kcI cI 72 g3), (m3, kcJ cJ 30 g5), (oh, oX0 om1 om2 om3 omc osc otx onr ora oru ody owa ose olw), (om1, kcI cI 50 of1), (om2, kcI cI 72 of2), (om3, kcJ cJ 30 of3)] := hD
  refine lv_aload_n hx hb dX0_become_86 rfl (lv_at hl 0 rfl) ?_
  refine lv_aload_n hx hb dX0_become_87 rfl (lv_at hl 1 rfl) ?_
  refine va_get (D := D) (ci := 0) (v := .int ora) (C := RX0) (T := TX0) (N := 13) hx hb hts iG_X0 hown hK hP 4 rfl rfl 7 (by decide) (hts _ w2_9) (fun _ h9 => h9) rfl dX0_become_88 ?_
  refine va_put (D := D) (ci := 0) (v := .int ora) (ty := .int) (C := RX0) (T := TX0) (N := 13) hx hb hts iG_X0 tyX0 tyX0_ok nmX0 hown hK hP hD hS 0 rfl rfl 7 (by decide) (hts _ w2_9) (fun _ h9 => h9) rfl (by decide +kernel) rfl rfl (Nat.le_of_ble_eq_true rfl) dX0_become_91 (fun H locs hP hD hS => ?_)
  have hP : va_P D vwCl [(h, oX0 m1 m2 m3 omc osc otx onr ora ru dy wa se lw), (m1, kcI cI 50 g1), (m2, kcI cI 72 g3), (m3, kcJ cJ 30 g5), (oh, oX0 om1 om2 om3 omc osc otx onr ora oru ody owa ose olw), (om1, kcI cI 50 of1), (om2, kcI cI 72 of2), (om3, kcJ cJ 30 of3)] H := hP
  have hD : va_D A [(h, oX0 m1 m2 m3 omc osc otx onr ora ru dy wa se lw), (m1, kcI cI 50 g1), (m2, kcI cI 72 g3), (m3, kcJ cJ 30 g5), (oh, oX0 om1 om2 om3 omc osc otx onr ora oru ody owa ose olw), (om1, kcI cI 50 of1), (om2, kcI cI 72 of2), (om3, kcJ cJ 30 of3)] := hD
  refine lv_aload_n hx hb dX0_become_94 rfl (lv_at hl 0 rfl) ?_
  refine lv_aload_n hx hb dX0_become_95 rfl (lv_at hl 1 rfl) ?_
  refine va_get (D := D) (ci := 0) (v := .int oru) (C := RX0) (T := TX0) (N := 13) hx hb hts iG_X0 hown hK hP 4 rfl rfl 8 (by decide) (hts _ w2_10) (fun _ h9 => h9) rfl dX0_become_96 ?_
  refine va_put (D := D) (ci := 0) (v := .int oru) (ty := .int) (C := RX0) (T := TX0) (N := 13) hx hb hts iG_X0 tyX0 tyX0_ok nmX0 hown hK hP hD hS 0 rfl rfl 8 (by decide) (hts _ w2_10) (fun _ h9 => h9) rfl (by decide +kernel) rfl rfl (Nat.le_of_ble_eq_true rfl) dX0_become_99 (fun H locs hP hD hS => ?_)
  have hP : va_P D vwCl [(h, oX0 m1 m2 m3 omc osc otx onr ora oru dy wa se lw), (m1, kcI cI 50 g1), (m2, kcI cI 72 g3), (m3, kcJ cJ 30 g5), (oh, oX0 om1 om2 om3 omc osc otx onr ora oru ody owa ose olw), (om1, kcI cI 50 of1), (om2, kcI cI 72 of2), (om3, kcJ cJ 30 of3)] H := hP
  have hD : va_D A [(h, oX0 m1 m2 m3 omc osc otx onr ora oru dy wa se lw), (m1, kcI cI 50 g1), (m2, kcI cI 72 g3), (m3, kcJ cJ 30 g5), (oh, oX0 om1 om2 om3 omc osc otx onr ora oru ody owa ose olw), (om1, kcI cI 50 of1), (om2, kcI cI 72 of2), (om3, kcJ cJ 30 of3)] := hD
  refine lv_aload_n hx hb dX0_become_102 rfl (lv_at hl 0 rfl) ?_
  refine lv_aload_n hx hb dX0_become_103 rfl (lv_at hl 1 rfl) ?_
  refine va_get (D := D) (ci := 0) (v := .int ody) (C := RX0) (T := TX0) (N := 13) hx hb hts iG_X0 hown hK hP 4 rfl rfl 9 (by decide) (hts _ w2_11) (fun _ h9 => h9) rfl dX0_become_104 ?_
  refine va_put (D := D) (ci := 0) (v := .int ody) (ty := .int) (C := RX0) (T := TX0) (N := 13) hx hb hts iG_X0 tyX0 tyX0_ok nmX0 hown hK hP hD hS 0 rfl rfl 9 (by decide) (hts _ w2_11) (fun _ h9 => h9) rfl (by decide +kernel) rfl rfl (Nat.le_of_ble_eq_true rfl) dX0_become_107 (fun H locs hP hD hS => ?_)
  have hP : va_P D vwCl [(h, oX0 m1 m2 m3 omc osc otx onr ora oru ody wa se lw), (m1, kcI cI 50 g1), (m2, kcI cI 72 g3), (m3, kcJ cJ 30 g5), (oh, oX0 om1 om2 om3 omc osc otx onr ora oru ody owa ose olw), (om1, kcI cI 50 of1), (om2, kcI cI 72 of2), (om3, kcJ cJ 30 of3)] H := hP
  have hD : va_D A [(h, oX0 m1 m2 m3 omc osc otx onr ora oru ody wa se lw), (m1, kcI cI 50 g1), (m2, kcI cI 72 g3), (m3, kcJ cJ 30 g5), (oh, oX0 om1 om2 om3 omc osc otx onr ora oru ody owa ose olw), (om1, kcI cI 50 of1), (om2, kcI cI 72 of2), (om3, kcJ cJ 30 of3)] := hD
  refine lv_aload_n hx hb dX0_become_110 rfl (lv_at hl 0 rfl) ?_
  refine lv_aload_n hx hb dX0_become_111 rfl (lv_at hl 1 rfl) ?_
  refine va_get (D := D) (ci := 0) (v := .int owa) (C := RX0) (T := TX0) (N := 13) hx hb hts iG_X0 hown hK hP 4 rfl rfl 10 (by decide) (hts _ w2_12) (fun _ h9 => h9) rfl dX0_become_112 ?_
  refine va_put (D := D) (ci := 0) (v := .int owa) (ty := .int) (C := RX0) (T := TX0) (N := 13) hx hb hts iG_X0 tyX0 tyX0_ok nmX0 hown hK hP hD hS 0 rfl rfl 10 (by decide) (hts _ w2_12) (fun _ h9 => h9) rfl (by decide +kernel) rfl rfl (Nat.le_of_ble_eq_true rfl) dX0_become_115 (fun H locs hP hD hS => ?_)
  have hP : va_P D vwCl [(h, oX0 m1 m2 m3 omc osc otx onr ora oru ody owa se lw), (m1, kcI cI 50 g1), (m2, kcI cI 72 g3), (m3, kcJ cJ 30 g5), (oh, oX0 om1 om2 om3 omc osc otx onr ora oru ody owa ose olw), (om1, kcI cI 50 of1), (om2, kcI cI 72 of2), (om3, kcJ cJ 30 of3)] H := hP
  have hD : va_D A [(h, oX0 m1 m2 m3 omc osc otx onr ora oru ody owa se lw), (m1, kcI cI 50 g1), (m2, kcI cI 72 g3), (m3, kcJ cJ 30 g5), (oh, oX0 om1 om2 om3 omc osc otx onr ora oru ody owa ose olw), (om1, kcI cI 50 of1), (om2, kcI cI 72 of2), (om3, kcJ cJ 30 of3)] := hD
  refine lv_aload_n hx hb dX0_become_118 rfl (lv_at hl 0 rfl) ?_
  refine lv_aload_n hx hb dX0_become_119 rfl (lv_at hl 1 rfl) ?_
  refine va_get (D := D) (ci := 0) (v := .int ose) (C := RX0) (T := TX0) (N := 13) hx hb hts iG_X0 hown hK hP 4 rfl rfl 11 (by decide) (hts _ w2_13) (fun _ h9 => h9) rfl dX0_become_120 ?_
  refine va_put (D := D) (ci := 0) (v := .int ose) (ty := .int) (C := RX0) (T := TX0) (N := 13) hx hb hts iG_X0 tyX0 tyX0_ok nmX0 hown hK hP hD hS 0 rfl rfl 11 (by decide) (hts _ w2_13) (fun _ h9 => h9) rfl (by decide +kernel) rfl rfl (Nat.le_of_ble_eq_true rfl) dX0_become_123 (fun H locs hP hD hS => ?_)
  have hP : va_P D vwCl [(h, oX0 m1 m2 m3 omc osc otx onr ora oru ody owa ose lw), (m1, kcI cI 50 g1), (m2, kcI cI 72 g3), (m3, kcJ cJ 30 g5), (oh, oX0 om1 om2 om3 omc osc otx onr ora oru ody owa ose olw), (om1, kcI cI 50 of1), (om2, kcI cI 72 of2), (om3, kcJ cJ 30 of3)] H := hP
  have hD : va_D A [(h, oX0 m1 m2 m3 omc osc otx onr ora oru ody owa ose lw), (m1, kcI cI 50 g1), (m2, kcI cI 72 g3), (m3, kcJ cJ 30 g5), (oh, oX0 om1 om2 om3 omc osc otx onr ora oru ody owa ose olw), (om1, kcI cI 50 of1), (om2, kcI cI 72 of2), (om3, kcJ cJ 30 of3)] := hD
  refine lv_aload_n hx hb dX0_become_126 rfl (lv_at hl 0 rfl) ?_
  refine lv_aload_n hx hb dX0_become_127 rfl (lv_at hl 1 rfl) ?_
  refine va_get (D := D) (ci := 0) (v := va_rf olw) (C := RX0) (T := TX0) (N := 13) hx hb hts iG_X0 hown hK hP 4 rfl rfl 12 (by decide) (hts _ w2_14) (fun _ h9 => h9) rfl dX0_become_128 ?_
  refine va_put (D := D) (ci := 0) (v := va_rf olw) (ty := .object "ShirtWash$Law") (C := RX0) (T := TX0) (N := 13) hx hb hts iG_X0 tyX0 tyX0_ok nmX0 hown hK hP hD hS 0 rfl rfl 12 (by decide) (hts _ w2_14) (fun _ h9 => h9) rfl (by decide +kernel) (by cases olw <;> rfl) (by cases olw <;> rfl) (Nat.le_of_ble_eq_true rfl) dX0_become_131 (fun H locs hP hD hS => ?_)
  have hP : va_P D vwCl [(h, oX0 m1 m2 m3 omc osc otx onr ora oru ody owa ose olw), (m1, kcI cI 50 g1), (m2, kcI cI 72 g3), (m3, kcJ cJ 30 g5), (oh, oX0 om1 om2 om3 omc osc otx onr ora oru ody owa ose olw), (om1, kcI cI 50 of1), (om2, kcI cI 72 of2), (om3, kcJ cJ 30 of3)] H := hP
  have hD : va_D A [(h, oX0 m1 m2 m3 omc osc otx onr ora oru ody owa ose olw), (m1, kcI cI 50 g1), (m2, kcI cI 72 g3), (m3, kcJ cJ 30 g5), (oh, oX0 om1 om2 om3 omc osc otx onr ora oru ody owa ose olw), (om1, kcI cI 50 of1), (om2, kcI cI 72 of2), (om3, kcJ cJ 30 of3)] := hD
  have hP9 := hP.sub (ws' := [(h, oX0 m1 m2 m3 omc osc otx onr ora oru ody owa ose olw), (m1, kcI cI 50 g1), (m2, kcI cI 72 g3), (m3, kcJ cJ 30 g5), (oh, oX0 om1 om2 om3 omc osc otx onr ora oru ody owa ose olw), (om1, kcI cI 50 of1), (om2, kcI cI 72 of2), (om3, kcJ cJ 30 of3)]) [0, 1, 2, 3, 4, 5, 6, 7] rfl
  have hD9 := hD.sub (ws' := [(h, oX0 m1 m2 m3 omc osc otx onr ora oru ody owa ose olw), (m1, kcI cI 50 g1), (m2, kcI cI 72 g3), (m3, kcJ cJ 30 g5), (oh, oX0 om1 om2 om3 omc osc otx onr ora oru ody owa ose olw), (om1, kcI cI 50 of1), (om2, kcI cI 72 of2), (om3, kcJ cJ 30 of3)]) [0, 1, 2, 3, 4, 5, 6, 7] (by decide) rfl
  exact W.vret hx hb hr (fun t ht hW => ⟨⟨(omc, osc, otx, onr, ora, oru, ody, owa, ose, g1, g3, g5), rfl, (kLet_eq (gT_cpy rfl rfl) (kLet_eq (congrArg gT hg1).symm (kLet_eq (gT_cpy rfl rfl) (kLet_eq (congrArg gT hg3).symm (kLet_eq rfl (kLet_eq hg5.symm rfl)))))), by rw [ht]; exact hP9, va_K.moved hW.alike hK, hD9⟩, hS.F ht⟩) hS.2.2 dX0_become_134

def kwX0_lawLines : List Cond := .code yX0_lawLines cX0_lawLines 1 (some .int) :: kG
theorem hdX0_lawLines : yX0_lawLines.cls ≠ "java/lang/invoke/MethodHandle" ∧ yX0_lawLines.cls ≠ "java/lang/invoke/VarHandle" ∧ (parseMethodDescriptor yX0_lawLines.desc).map (fun d => d.parameters.length) = some 0 := by decide +kernel
theorem dX0_lawLines_0 : decode cX0_lawLines 0 = .ok (.aload_n 0, 1) := by decide +kernel
theorem dX0_lawLines_1 : decode cX0_lawLines 1 = .ok (.getfield 50, 3) := by decide +kernel
theorem dX0_lawLines_4 : decode cX0_lawLines 4 = .ok (.ifnonnull 7, 3) := by decide +kernel
theorem dX0_lawLines_7 : decode cX0_lawLines 7 = .ok (.iconst (-1), 1) := by decide +kernel
theorem dX0_lawLines_8 : decode cX0_lawLines 8 = .ok (.goto 10, 3) := by decide +kernel
theorem dX0_lawLines_18 : decode cX0_lawLines 18 = .ok (.ireturn, 1) := by decide +kernel
set_option maxHeartbeats 4000000 in
set_option maxRecDepth 100000 in
/-- Camp.lawLines() without a law -/
theorem z_Camp_lawLines0 (l : Launch) (D : va_G) (cI cJ cB cC : ClassId) (h : Nat) (m1 : Nat) (m2 : Nat) (m3 : Nat) (mc : Int32) (sc : Int32) (tx : Int32) (nr : Int32) (ra : Int32) (ru : Int32) (dy : Int32) (wa : Int32) (se : Int32) (f1 : Nat → Int32) (f2 : Nat → Int32) (f3 : Nat → Int64) (sz : Nat)  : Met l yX0_lawLines kwX0_lawLines ({ frames := 0, cells := 0, slots := 0, locals := 0 } : Room) (kPre D (kT cI cJ cB cC) sz [(h, oX0 m1 m2 m3 mc sc tx nr ra ru dy wa se none), (m1, kcI cI 50 f1), (m2, kcI cI 72 f2), (m3, kcJ cJ 30 f3)] [.ref h]) (va_Qi (fun (r : Int32) (_ : Unit) => Rg r (-1) (-1) ∧ F_z_Camp_lawLines0 = ((r : Int32).toInt)) (fun (_ : Unit) (t : State) => kB D (kT cI cJ cB cC) (va_A [(h, oX0 m1 m2 m3 mc sc tx nr ra ru dy wa se none), (m1, kcI cI 50 f1), (m2, kcI cI 72 f2), (m3, kcJ cJ 30 f3)] sz) [(h, oX0 m1 m2 m3 mc sc tx nr ra ru dy wa se none), (m1, kcI cI 50 f1), (m2, kcI cI 72 f2), (m3, kcJ cJ 30 f3)] t) (va_A [(h, oX0 m1 m2 m3 mc sc tx nr ra ru dy wa se none), (m1, kcI cI 50 f1), (m2, kcI cI 72 f2), (m3, kcJ cJ 30 f3)] sz)) 0 0 (va_A [(h, oX0 m1 m2 m3 mc sc tx nr ra ru dy wa se none), (m1, kcI cI 50 f1), (m2, kcI cI 72 f2), (m3, kcJ cJ 30 f3)] sz) := by
  refine Met.ofW (cc := cX0_lawLines) (maxL := 1) (ret := (some .int)) (by decide) rfl ?_
  intro p e s m args below meth c s₁ B hml hv
  obtain ⟨rfl, hsz, hN, hE, hP, hK, hD0⟩ := hv
  have hx := B.exec
  have hb := B.bytes
  have hr := B.returns
  have hts := fun (w : Cond) (h : w ∈ kG) => atoms_spec (ws := kwX0_lawLines) B.pre w (List.mem_cons_of_mem _ h)
  have hown : s.vm.findClass RX0 = some m.cls := findClass_of_methodNamed B.named
  subst hsz
  have hD := hD0.self (sz := s.heap.size)
  generalize hAe : va_A [(h, oX0 m1 m2 m3 mc sc tx nr ra ru dy wa se none), (m1, kcI cI 50 f1), (m2, kcI cI 72 f2), (m3, kcJ cJ 30 f3)] s.heap.size = A at hD hE ⊢
  have hA : ∀ q : Nat, s.heap.size ≤ q → A q := fun q h => by rw [← hAe]; exact Or.inr h
  have hl := lv_entry ([.ref h]) (n := 1) (Nat.le_of_ble_eq_true rfl)
  rw [lg_entry_eq]
  generalize (lg_sl ([.ref h]) ++ List.replicate (1 - (lg_sl ([.ref h])).length) Slot.unset).toArray = ls at hl ⊢
  have hl : lv_has ls 1 [(0, .ref h)] := hl
  obtain ⟨H, hH0⟩ : ∃ H, H = s.heap := ⟨_, rfl⟩
  have hS : va_S A s.heap H [] := by rw [hH0]; exact va_S.rf
  have hP : va_P D vwCl [(h, oX0 m1 m2 m3 mc sc tx nr ra ru dy wa se none), (m1, kcI cI 50 f1), (m2, kcI cI 72 f2), (m3, kcJ cJ 30 f3)] H := by rw [hH0]; exact hP
  refine kHeap hH0 ?_
  clear hH0
  refine lv_aload_n hx hb dX0_lawLines_0 rfl (lv_at hl 0 rfl) ?_
  refine va_get (D := D) (ci := 0) (v := .null) (C := RX0) (T := TX0) (N := 13) hx hb hts iG_X0 hown hK hP 0 rfl rfl 12 (by decide) (hts _ w2_14) (fun _ h9 => h9) rfl dX0_lawLines_1 ?_
  refine lv_ifnonnullN hx hb dX0_lawLines_4 ?_
  refine lv_iconst (v := (-1)) hx hb dX0_lawLines_7 (by decide) ?_
  refine lv_goto (tgt := 18) hx hb dX0_lawLines_8 (by decide) ?_
  have hP9 := hP.sub (ws' := [(h, oX0 m1 m2 m3 mc sc tx nr ra ru dy wa se none), (m1, kcI cI 50 f1), (m2, kcI cI 72 f2), (m3, kcJ cJ 30 f3)]) [0, 1, 2, 3] rfl
  have hD9 := hD.sub (ws' := [(h, oX0 m1 m2 m3 mc sc tx nr ra ru dy wa se none), (m1, kcI cI 50 f1), (m2, kcI cI 72 f2), (m3, kcJ cJ 30 f3)]) [0, 1, 2, 3] (by decide) rfl
  exact W.iret (v := (-1)) hx hb hr (fun t ht hW => ⟨⟨(-1), (), rfl, ⟨(rg_lit (n := -1) (by decide)), rfl⟩, by rw [ht]; exact hP9, va_K.moved hW.alike hK, hD9⟩, hS.F ht⟩) hS.2.2 dX0_lawLines_18

