def kwX11_give : List Cond := .code yX11_give cX11_give 3 (some .int) :: kG
theorem hdX11_give : yX11_give.cls ≠ "java/lang/invoke/MethodHandle" ∧ yX11_give.cls ≠ "java/lang/invoke/VarHandle" ∧ (parseMethodDescriptor yX11_give.desc).map (fun d => d.parameters.length) = some 2 := by decide +kernel
theorem gX11_give_X11_gives : GoodIn kG (wsV RX11 307 RX11 yX11_gives kwX11_gives) := gK w35_9 (gK w35_10 (gK w35_11 (gK w0_5 (gK w35_12 gGG))))
theorem gX11_give_X11_isBarred : GoodIn kG (wsV RX11 286 RX11 yX11_isBarred kwX11_isBarred) := gK w30_7 (gK w30_8 (gK w30_9 (gK w0_5 (gK w30_10 gGG))))
theorem gX11_give_X11_noMan : GoodIn kG (wsV RX11 280 RX11 yX11_noMan kwX11_noMan) := gK w27_4 (gK w27_5 (gK w27_6 (gK w0_5 (gK w27_7 gGG))))
theorem gX11_give_X11_noShirt : GoodIn kG (wsV RX11 283 RX11 yX11_noShirt kwX11_noShirt) := gK w28_12 (gK w28_13 (gK w28_14 (gK w0_5 (gK w28_15 gGG))))
theorem gX11_give_X11_of : GoodIn kG (wsV RX11 156 RX11 yX11_of kwX11_of) := gK w21_9 (gK w21_10 (gK w21_11 (gK w0_5 (gK w21_12 gGG))))
theorem gX11_give_X11_ofMan : GoodIn kG (wsV RX11 153 RX11 yX11_ofMan kwX11_ofMan) := gK w21_5 (gK w21_6 (gK w21_7 (gK w0_5 (gK w21_8 gGG))))
theorem gX11_give_X11_remembers : GoodIn kG (wsV RX11 298 RX11 yX11_remembers kwX11_remembers) := gK w34_0 (gK w34_1 (gK w34_2 (gK w0_5 (gK w34_3 gGG))))
theorem gX11_give_X11_throwsIf : GoodIn kG (wsV RX11 258 RX11 yX11_throwsIf kwX11_throwsIf) := gK w23_6 (gK w23_7 (gK w23_8 (gK w0_5 (gK w23_9 gGG))))
theorem dX11_give_0 : decode cX11_give 0 = .ok (.aload_n 0, 1) := by decide +kernel
theorem dX11_give_1 : decode cX11_give 1 = .ok (.iconst 0, 1) := by decide +kernel
theorem dX11_give_2 : decode cX11_give 2 = .ok (.putfield 3, 3) := by decide +kernel
theorem dX11_give_5 : decode cX11_give 5 = .ok (.aload_n 0, 1) := by decide +kernel
theorem dX11_give_6 : decode cX11_give 6 = .ok (.aload_n 0, 1) := by decide +kernel
theorem dX11_give_7 : decode cX11_give 7 = .ok (.iload_n 1, 1) := by decide +kernel
theorem dX11_give_8 : decode cX11_give 8 = .ok (.invokevirtual 280, 3) := by decide +kernel
theorem dX11_give_11 : decode cX11_give 11 = .ok (.ifCond .ne 11, 3) := by decide +kernel
theorem dX11_give_14 : decode cX11_give 14 = .ok (.aload_n 0, 1) := by decide +kernel
theorem dX11_give_15 : decode cX11_give 15 = .ok (.iload_n 2, 1) := by decide +kernel
theorem dX11_give_16 : decode cX11_give 16 = .ok (.invokevirtual 283, 3) := by decide +kernel
theorem dX11_give_19 : decode cX11_give 19 = .ok (.ifCond .eq 7, 3) := by decide +kernel
theorem dX11_give_22 : decode cX11_give 22 = .ok (.iconst 1, 1) := by decide +kernel
theorem dX11_give_23 : decode cX11_give 23 = .ok (.goto 4, 3) := by decide +kernel
theorem dX11_give_26 : decode cX11_give 26 = .ok (.iconst 0, 1) := by decide +kernel
theorem dX11_give_27 : decode cX11_give 27 = .ok (.iconst 1, 1) := by decide +kernel
theorem dX11_give_28 : decode cX11_give 28 = .ok (.invokevirtual 258, 3) := by decide +kernel
theorem dX11_give_31 : decode cX11_give 31 = .ok (.ifCond .ne 43, 3) := by decide +kernel
theorem dX11_give_34 : decode cX11_give 34 = .ok (.aload_n 0, 1) := by decide +kernel
theorem dX11_give_35 : decode cX11_give 35 = .ok (.aload_n 0, 1) := by decide +kernel
theorem dX11_give_36 : decode cX11_give 36 = .ok (.iload_n 1, 1) := by decide +kernel
theorem dX11_give_37 : decode cX11_give 37 = .ok (.iconst 4, 1) := by decide +kernel
theorem dX11_give_38 : decode cX11_give 38 = .ok (.invokevirtual 153, 3) := by decide +kernel
theorem dX11_give_41 : decode cX11_give 41 = .ok (.ifCond .ge 21, 3) := by decide +kernel
theorem dX11_give_44 : decode cX11_give 44 = .ok (.aload_n 0, 1) := by decide +kernel
theorem dX11_give_45 : decode cX11_give 45 = .ok (.iload_n 2, 1) := by decide +kernel
theorem dX11_give_46 : decode cX11_give 46 = .ok (.iconst 5, 1) := by decide +kernel
theorem dX11_give_47 : decode cX11_give 47 = .ok (.invokevirtual 156, 3) := by decide +kernel
theorem dX11_give_50 : decode cX11_give 50 = .ok (.ifCond .ge 12, 3) := by decide +kernel
theorem dX11_give_53 : decode cX11_give 53 = .ok (.aload_n 0, 1) := by decide +kernel
theorem dX11_give_54 : decode cX11_give 54 = .ok (.iload_n 1, 1) := by decide +kernel
theorem dX11_give_55 : decode cX11_give 55 = .ok (.iload_n 2, 1) := by decide +kernel
theorem dX11_give_56 : decode cX11_give 56 = .ok (.invokevirtual 286, 3) := by decide +kernel
theorem dX11_give_59 : decode cX11_give 59 = .ok (.ifCond .eq 7, 3) := by decide +kernel
theorem dX11_give_62 : decode cX11_give 62 = .ok (.iconst 1, 1) := by decide +kernel
theorem dX11_give_63 : decode cX11_give 63 = .ok (.goto 4, 3) := by decide +kernel
theorem dX11_give_66 : decode cX11_give 66 = .ok (.iconst 0, 1) := by decide +kernel
theorem dX11_give_67 : decode cX11_give 67 = .ok (.iconst 2, 1) := by decide +kernel
theorem dX11_give_68 : decode cX11_give 68 = .ok (.invokevirtual 258, 3) := by decide +kernel
theorem dX11_give_71 : decode cX11_give 71 = .ok (.ifCond .eq 5, 3) := by decide +kernel
theorem dX11_give_74 : decode cX11_give 74 = .ok (.iconst 0, 1) := by decide +kernel
theorem dX11_give_75 : decode cX11_give 75 = .ok (.ireturn, 1) := by decide +kernel
theorem dX11_give_76 : decode cX11_give 76 = .ok (.aload_n 0, 1) := by decide +kernel
theorem dX11_give_77 : decode cX11_give 77 = .ok (.invokevirtual 298, 3) := by decide +kernel
theorem dX11_give_80 : decode cX11_give 80 = .ok (.aload_n 0, 1) := by decide +kernel
theorem dX11_give_81 : decode cX11_give 81 = .ok (.iload_n 1, 1) := by decide +kernel
theorem dX11_give_82 : decode cX11_give 82 = .ok (.iload_n 2, 1) := by decide +kernel
theorem dX11_give_83 : decode cX11_give 83 = .ok (.invokevirtual 307, 3) := by decide +kernel
theorem dX11_give_86 : decode cX11_give 86 = .ok (.aload_n 0, 1) := by decide +kernel
theorem dX11_give_87 : decode cX11_give 87 = .ok (.iload_n 2, 1) := by decide +kernel
theorem dX11_give_88 : decode cX11_give 88 = .ok (.iconst 2, 1) := by decide +kernel
theorem dX11_give_89 : decode cX11_give 89 = .ok (.invokevirtual 156, 3) := by decide +kernel
theorem dX11_give_92 : decode cX11_give 92 = .ok (.ireturn, 1) := by decide +kernel
set_option maxHeartbeats 4000000 in
set_option maxRecDepth 100000 in
/-- reference: give -/
theorem r_give (l : Launch) (D : va_G) (cI cJ cB cC : ClassId) (h : Nat) (th : Int32) (aw : Nat) (ai : Nat) (ab : Nat) (ac : Nat) (hi : Int32) (re : Int32) (aP : Nat) (ta : Int32) (po : Int32) (en : Int32) (be : Int32) (de : Int32) (fa : Int32) (a5 : Nat) (sp : Int32) (av : Nat) (an : Nat) (ak : Nat) (ne : Int32) (aW : Nat) (aC : Nat) (ag : Nat) (aT : Nat) (aN : Nat) (aF : Nat) (fw : Nat → Int32) (fv : Nat → Int32) (fc : Nat → Int32) (a1 : Int32) (b1 : Int32) (sz : Nat) (H_re : Rg re 0 12) (H_fw_W : wW fw) (H_fw_B : wB fw) (H_fw_L : wL fw) (H_fc_C : wC fc) : Met l yX11_give kwX11_give ({ frames := 6, cells := 0, slots := 0, locals := 144 } : Room) (kPre D (kT cI cJ cB cC) sz [(h, oX11 th aw ai ab ac hi re aP ta po en be de fa a5 sp av an ak ne aW aC ag aT aN aF), (aw, kcI cI 2179 fw), (av, kcI cI 400 fv), (ac, kcI cI 6060 fc)] [.ref h, .int a1, .int b1]) (va_Qi (fun (r : Int32) (uu : Int32 × Int32 × (Nat → Int32) × (Nat → Int32) × (Nat → Int32)) => match uu with | (n0_, n1_, f2_, f3_, f4_) => Rg n1_ 0 12 ∧ wB f2_ ∧ wL f2_ ∧ wW f2_ ∧ wC f4_ ∧ F_r_give (re : Int32).toInt (gT fw) (gT fv) (gT fc) (a1 : Int32).toInt (b1 : Int32).toInt = ((r : Int32).toInt, (n0_ : Int32).toInt, (n1_ : Int32).toInt, (gT f2_), (gT f3_), (gT f4_))) (fun (uu : Int32 × Int32 × (Nat → Int32) × (Nat → Int32) × (Nat → Int32)) (t : State) => match uu with | (n0_, n1_, f2_, f3_, f4_) => kB D (kT cI cJ cB cC) (va_A [(h, oX11 th aw ai ab ac hi re aP ta po en be de fa a5 sp av an ak ne aW aC ag aT aN aF), (aw, kcI cI 2179 fw), (av, kcI cI 400 fv), (ac, kcI cI 6060 fc)] sz) [(h, oX11 n0_ aw ai ab ac hi n1_ aP ta po en be de fa a5 sp av an ak ne aW aC ag aT aN aF), (aw, kcI cI 2179 f2_), (av, kcI cI 400 f3_), (ac, kcI cI 6060 f4_)] t) (va_A [(h, oX11 th aw ai ab ac hi re aP ta po en be de fa a5 sp av an ak ne aW aC ag aT aN aF), (aw, kcI cI 2179 fw), (av, kcI cI 400 fv), (ac, kcI cI 6060 fc)] sz)) 0 0 (va_A [(h, oX11 th aw ai ab ac hi re aP ta po en be de fa a5 sp av an ak ne aW aC ag aT aN aF), (aw, kcI cI 2179 fw), (av, kcI cI 400 fv), (ac, kcI cI 6060 fc)] sz) := by
  refine Met.ofW (cc := cX11_give) (maxL := 3) (ret := (some .int)) (by decide) rfl ?_
  intro p e s m args below meth c s₁ B hml hv
  obtain ⟨rfl, hsz, hN, hE, hP, hK, hD0⟩ := hv
  have hx := B.exec
  have hb := B.bytes
  have hr := B.returns
  have hts := fun (w : Cond) (h : w ∈ kG) => atoms_spec (ws := kwX11_give) B.pre w (List.mem_cons_of_mem _ h)
  have hown : s.vm.findClass RX11 = some m.cls := findClass_of_methodNamed B.named
  subst hsz
  have hD := hD0.self (sz := s.heap.size)
  generalize hAe : va_A [(h, oX11 th aw ai ab ac hi re aP ta po en be de fa a5 sp av an ak ne aW aC ag aT aN aF), (aw, kcI cI 2179 fw), (av, kcI cI 400 fv), (ac, kcI cI 6060 fc)] s.heap.size = A at hD hE ⊢
  have hA : ∀ q : Nat, s.heap.size ≤ q → A q := fun q h => by rw [← hAe]; exact Or.inr h
  have hl := lv_entry ([.ref h, .int a1, .int b1]) (n := 3) (Nat.le_of_ble_eq_true rfl)
  rw [lg_entry_eq]
  generalize (lg_sl ([.ref h, .int a1, .int b1]) ++ List.replicate (3 - (lg_sl ([.ref h, .int a1, .int b1])).length) Slot.unset).toArray = ls at hl ⊢
  have hl : lv_has ls 3 [(0, .ref h), (1, .int a1), (2, .int b1)] := hl
  obtain ⟨H, hH0⟩ : ∃ H, H = s.heap := ⟨_, rfl⟩
  have hS : va_S A s.heap H [] := by rw [hH0]; exact va_S.rf
  have hP : va_P D vwCl [(h, oX11 th aw ai ab ac hi re aP ta po en be de fa a5 sp av an ak ne aW aC ag aT aN aF), (aw, kcI cI 2179 fw), (av, kcI cI 400 fv), (ac, kcI cI 6060 fc)] H := by rw [hH0]; exact hP
  refine kHeap hH0 ?_
  clear hH0
  refine lv_aload_n hx hb dX11_give_0 rfl (lv_at hl 0 rfl) ?_
  refine lv_iconst (v := 0) hx hb dX11_give_1 (by decide) ?_
  refine va_put (D := D) (ci := 10) (v := .int 0) (ty := .int) (C := RX11) (T := TX11) (N := 26) hx hb hts iG_X11 tyX11 tyX11_ok nmX11 hown hK hP hD hS 0 rfl rfl 0 (by decide) (hts _ w6_8) (fun _ h9 => h9) rfl (by decide +kernel) rfl rfl (Nat.le_of_ble_eq_true rfl) dX11_give_2 (fun H locs hP hD hS => ?_)
  have hP : va_P D vwCl [(h, oX11 0 aw ai ab ac hi re aP ta po en be de fa a5 sp av an ak ne aW aC ag aT aN aF), (aw, kcI cI 2179 fw), (av, kcI cI 400 fv), (ac, kcI cI 6060 fc)] H := hP
  have hD : va_D A [(h, oX11 0 aw ai ab ac hi re aP ta po en be de fa a5 sp av an ak ne aW aC ag aT aN aF), (aw, kcI cI 2179 fw), (av, kcI cI 400 fv), (ac, kcI cI 6060 fc)] := hD
  refine lv_aload_n hx hb dX11_give_5 rfl (lv_at hl 0 rfl) ?_
  refine lv_aload_n hx hb dX11_give_6 rfl (lv_at hl 0 rfl) ?_
  refine lv_iload_n hx hb dX11_give_7 rfl (lv_at hl 1 rfl) ?_
  refine kpurei (wc := [(h, oX11 0 aw ai ab ac hi re aP ta po en be de fa a5 sp av an ak ne aW aC ag aT aN aF), (aw, kcI cI 2179 fw)]) hP hD hS hA [0, 1] rfl (by decide) (fun hPc hDc hFc => va_runV (As := [.int a1]) (rest := [.ref h]) ⟨hx, hb, hml, hown, hts⟩ (r_noMan l D cI cJ cB cC h 0 aw ai ab ac hi re aP ta po en be de fa a5 sp av an ak ne aW aC ag aT aN aF fw a1 H.size H_fw_W) (cwV 1 hts gX11_give_X11_noMan rfl rfl rfl ⟨rfl, hdX11_noMan⟩ ⟨Nat.le_of_ble_eq_true rfl, Nat.le_of_ble_eq_true rfl⟩) ⟨kBlind, va_recv hK hPc (ci := 10) (q0 := 0) rfl rfl, fun U hU hW => ⟨rfl, by rw [hU], hN.warm hW, hE.pass hS hFc hW hU, by rw [hU]; exact hPc, va_K.moved hW.alike hK, hDc⟩⟩ rfl rfl hl.1 rfl (lv_room (Nat.le_of_ble_eq_true rfl)) dX11_give_8 ⟨Nat.le_of_ble_eq_true rfl, Nat.le_of_ble_eq_true rfl⟩) (fun r1 u H locs hw hP hS => ?_)
  obtain ⟨k2, hw⟩ := hw
  rcases hw with ⟨rfl, kc3_0, kc3_1⟩ | rfl
  · skip
    refine lv_if_ne (tgt := 22) hx hb dX11_give_11 (by decide) (fun c10 => absurd (by decide) c10) (fun _ => ?_)
    refine lv_aload_n hx hb dX11_give_14 rfl (lv_at hl 0 rfl) ?_
    refine lv_iload_n hx hb dX11_give_15 rfl (lv_at hl 2 rfl) ?_
    refine kpurei (wc := [(h, oX11 0 aw ai ab ac hi re aP ta po en be de fa a5 sp av an ak ne aW aC ag aT aN aF), (aw, kcI cI 2179 fw)]) hP hD hS hA [0, 1] rfl (by decide) (fun hPc hDc hFc => va_runV (As := [.int b1]) (rest := [.ref h]) ⟨hx, hb, hml, hown, hts⟩ (r_noShirt l D cI cJ cB cC h 0 aw ai ab ac hi re aP ta po en be de fa a5 sp av an ak ne aW aC ag aT aN aF fw b1 H.size H_fw_W) (cwV 1 hts gX11_give_X11_noShirt rfl rfl rfl ⟨rfl, hdX11_noShirt⟩ ⟨Nat.le_of_ble_eq_true rfl, Nat.le_of_ble_eq_true rfl⟩) ⟨kBlind, va_recv hK hPc (ci := 10) (q0 := 0) rfl rfl, fun U hU hW => ⟨rfl, by rw [hU], hN.warm hW, hE.pass hS hFc hW hU, by rw [hU]; exact hPc, va_K.moved hW.alike hK, hDc⟩⟩ rfl rfl hl.1 rfl (lv_room (Nat.le_of_ble_eq_true rfl)) dX11_give_16 ⟨Nat.le_of_ble_eq_true rfl, Nat.le_of_ble_eq_true rfl⟩) (fun r11 u H locs hw hP hS => ?_)
    obtain ⟨k12, hw⟩ := hw
    rcases hw with ⟨rfl, kc13_0, kc13_1⟩ | rfl
    · skip
      refine lv_if_eq (tgt := 26) hx hb dX11_give_19 (by decide) (fun _ => ?_) (fun c14 => absurd (by decide) c14)
      refine lv_iconst (v := 0) hx hb dX11_give_26 (by decide) ?_
      refine lv_iconst (v := 1) hx hb dX11_give_27 (by decide) ?_
      refine kpurei (wc := [(h, oX11 0 aw ai ab ac hi re aP ta po en be de fa a5 sp av an ak ne aW aC ag aT aN aF)]) hP hD hS hA [0] rfl (by decide) (fun hPc hDc hFc => va_runV (As := [.int 0, .int 1]) (rest := []) ⟨hx, hb, hml, hown, hts⟩ (r_throwsIf0_1 l D cI cJ cB cC h 0 aw ai ab ac hi re aP ta po en be de fa a5 sp av an ak ne aW aC ag aT aN aF 1 H.size) (cwV 2 hts gX11_give_X11_throwsIf rfl rfl rfl ⟨rfl, hdX11_throwsIf⟩ ⟨Nat.le_of_ble_eq_true rfl, Nat.le_of_ble_eq_true rfl⟩) ⟨kBlind, va_recv hK hPc (ci := 10) (q0 := 0) rfl rfl, fun U hU hW => ⟨rfl, by rw [hU], hN.warm hW, hE.pass hS hFc hW hU, by rw [hU]; exact hPc, va_K.moved hW.alike hK, hDc⟩⟩ rfl rfl hl.1 rfl (lv_room (Nat.le_of_ble_eq_true rfl)) dX11_give_28 ⟨Nat.le_of_ble_eq_true rfl, Nat.le_of_ble_eq_true rfl⟩) (fun r15 u H locs hw hP hS => ?_)
      obtain ⟨k16, k17⟩ := hw
      refine lv_if_ne (tgt := 74) hx hb dX11_give_31 (by decide) (fun c63 => absurd (rg_eq k16 (rg_lit (n := 0) (by decide)) (by decide)) c63) (fun _ => ?_)
      refine lv_aload_n hx hb dX11_give_34 rfl (lv_at hl 0 rfl) ?_
      refine lv_aload_n hx hb dX11_give_35 rfl (lv_at hl 0 rfl) ?_
      refine lv_iload_n hx hb dX11_give_36 rfl (lv_at hl 1 rfl) ?_
      refine lv_iconst (v := 4) hx hb dX11_give_37 (by decide) ?_
      refine kpurei (wc := [(h, oX11 0 aw ai ab ac hi re aP ta po en be de fa a5 sp av an ak ne aW aC ag aT aN aF), (aw, kcI cI 2179 fw)]) hP hD hS hA [0, 1] rfl (by decide) (fun hPc hDc hFc => va_runV (As := [.int a1, .int 4]) (rest := [.ref h]) ⟨hx, hb, hml, hown, hts⟩ (r_ofMan4 l D cI cJ cB cC h 0 aw ai ab ac hi re aP ta po en be de fa a5 sp av an ak ne aW aC ag aT aN aF fw a1 H.size kc3_0 H_fw_W) (cwV 2 hts gX11_give_X11_ofMan rfl rfl rfl ⟨rfl, hdX11_ofMan⟩ ⟨Nat.le_of_ble_eq_true rfl, Nat.le_of_ble_eq_true rfl⟩) ⟨kBlind, va_recv hK hPc (ci := 10) (q0 := 0) rfl rfl, fun U hU hW => ⟨rfl, by rw [hU], hN.warm hW, hE.pass hS hFc hW hU, by rw [hU]; exact hPc, va_K.moved hW.alike hK, hDc⟩⟩ rfl rfl hl.1 rfl (lv_room (Nat.le_of_ble_eq_true rfl)) dX11_give_38 ⟨Nat.le_of_ble_eq_true rfl, Nat.le_of_ble_eq_true rfl⟩) (fun r64 u H locs hw hP hS => ?_)
      obtain ⟨k65, k66, k67⟩ := hw
      refine k_join (hd := 62) (cells2 := 0) (slots2 := 0) (fun (g86 : (Nat → Int32)) => [.ref h]) (fun (g86 : (Nat → Int32)) (H : Heap) (locs : List Loc) (ls : Array Slot) => (F_r_give re.toInt (gT fw) (gT fv) (gT fc) a1.toInt b1.toInt = F_r_give_j1 re.toInt (gT fw) (gT fc) (gT g86)) ∧ va_P D vwCl [(h, oX11 0 aw ai ab ac hi re aP ta po en be de fa a5 sp av an ak ne aW aC ag aT aN aF), (aw, kcI cI 2179 fw), (av, kcI cI 400 g86), (ac, kcI cI 6060 fc)] H ∧ va_D A [(h, oX11 0 aw ai ab ac hi re aP ta po en be de fa a5 sp av an ak ne aW aC ag aT aN aF), (aw, kcI cI 2179 fw), (av, kcI cI 400 g86), (ac, kcI cI 6060 fc)] ∧ va_S A s.heap H locs ∧ lv_has ls 3 [(0, .ref h), (1, .int a1), (2, .int b1)]) (fun u H locs ls hI => ?_) (fun hJ62 => ?_)
      · skip
        clear hP hD hS hl
        obtain ⟨g86, rfl⟩ : ∃ z, z = u := ⟨_, rfl⟩
        obtain ⟨hF1, hP, hD, hS, hl⟩ := hI
        have hP : va_P D vwCl [(h, oX11 0 aw ai ab ac hi re aP ta po en be de fa a5 sp av an ak ne aW aC ag aT aN aF), (aw, kcI cI 2179 fw), (av, kcI cI 400 g86), (ac, kcI cI 6060 fc)] H := hP
        have hD : va_D A [(h, oX11 0 aw ai ab ac hi re aP ta po en be de fa a5 sp av an ak ne aW aC ag aT aN aF), (aw, kcI cI 2179 fw), (av, kcI cI 400 g86), (ac, kcI cI 6060 fc)] := hD
        have hl : lv_has ls 3 [(0, .ref h), (1, .int a1), (2, .int b1)] := hl
        show W _ _ _ _ _ _ _ _ _ _ _ _ _ _ _ (F0 m 62 ls [.ref h])
        refine lv_iconst (v := 1) hx hb dX11_give_62 (by decide) ?_
        refine lv_goto (tgt := 67) hx hb dX11_give_63 (by decide) ?_
        refine lv_iconst (v := 2) hx hb dX11_give_67 (by decide) ?_
        refine kcalli (wc := [(h, oX11 0 aw ai ab ac hi re aP ta po en be de fa a5 sp av an ak ne aW aC ag aT aN aF)]) (wr := [(aw, kcI cI 2179 fw), (av, kcI cI 400 g86), (ac, kcI cI 6060 fc)]) hP hD hS hA [0] [1, 2, 3] rfl rfl (by decide) (by decide) (by decide) (fun hPc hDc hFc => va_runV (As := [.int 1, .int 2]) (rest := []) ⟨hx, hb, hml, hown, hts⟩ (r_throwsIf1_1 l D cI cJ cB cC h 0 aw ai ab ac hi re aP ta po en be de fa a5 sp av an ak ne aW aC ag aT aN aF 2 H.size) (cwV 2 hts gX11_give_X11_throwsIf rfl rfl rfl ⟨rfl, hdX11_throwsIf⟩ ⟨Nat.le_of_ble_eq_true rfl, Nat.le_of_ble_eq_true rfl⟩) ⟨kBlind, va_recv hK hPc (ci := 10) (q0 := 0) rfl rfl, fun U hU hW => ⟨rfl, by rw [hU], hN.warm hW, hE.pass hS hFc hW hU, by rw [hU]; exact hPc, va_K.moved hW.alike hK, hDc⟩⟩ rfl rfl hl.1 rfl (lv_room (Nat.le_of_ble_eq_true rfl)) dX11_give_68 ⟨Nat.le_of_ble_eq_true rfl, Nat.le_of_ble_eq_true rfl⟩) (fun r87 u H locs hw hP hD hS => ?_)
        obtain ⟨x88, rfl⟩ : ∃ z, z = u := ⟨_, rfl⟩
        have hP : va_P D vwCl [(aw, kcI cI 2179 fw), (av, kcI cI 400 g86), (ac, kcI cI 6060 fc), (h, oX11 x88 aw ai ab ac hi re aP ta po en be de fa a5 sp av an ak ne aW aC ag aT aN aF)] H := hP
        have hD : va_D A [(aw, kcI cI 2179 fw), (av, kcI cI 400 g86), (ac, kcI cI 6060 fc), (h, oX11 x88 aw ai ab ac hi re aP ta po en be de fa a5 sp av an ak ne aW aC ag aT aN aF)] := hD
        obtain ⟨k89, k90⟩ := hw
        refine lv_if_eq (tgt := 76) hx hb dX11_give_71 (by decide) (fun c91 => absurd c91 (rg_neq k89 (rg_lit (n := 0) (by decide)) (by decide))) (fun _ => ?_)
        refine lv_iconst (v := 0) hx hb dX11_give_74 (by decide) ?_
        have hP9 := hP.sub (ws' := [(h, oX11 x88 aw ai ab ac hi re aP ta po en be de fa a5 sp av an ak ne aW aC ag aT aN aF), (aw, kcI cI 2179 fw), (av, kcI cI 400 g86), (ac, kcI cI 6060 fc)]) [3, 0, 1, 2] rfl
        have hD9 := hD.sub (ws' := [(h, oX11 x88 aw ai ab ac hi re aP ta po en be de fa a5 sp av an ak ne aW aC ag aT aN aF), (aw, kcI cI 2179 fw), (av, kcI cI 400 g86), (ac, kcI cI 6060 fc)]) [3, 0, 1, 2] (by decide) rfl
        exact W.iret (v := 0) hx hb hr (fun t ht hW => ⟨⟨0, (x88, re, fw, g86, fc), rfl, ⟨H_re, H_fw_B, H_fw_L, H_fw_W, H_fc_C, (hF1.trans (kC_eq k90 rfl))⟩, by rw [ht]; exact hP9, va_K.moved hW.alike hK, hD9⟩, hS.F ht⟩) hS.2.2 dX11_give_75
      refine lv_if_ge (tgt := 62) hx hb dX11_give_41 (by decide) (fun c92 => ?_) (fun c92 => ?_)
      · skip
        have k93 : Rg r64 0 11 := rg_e2 (leI c92) (rg_lit (n := 0) (by decide)) k66 (by decide)
        exact hJ62 (fv) _ _ _ ⟨(kLet_eq (k2).symm (kif_t rfl (kLet_eq (k12).symm (kif_t rfl (kLet_eq (k17).symm (kLet_eq (k67).symm (kif_t (leI c92) rfl))))))), hP.sub (ws' := [(h, oX11 0 aw ai ab ac hi re aP ta po en be de fa a5 sp av an ak ne aW aC ag aT aN aF), (aw, kcI cI 2179 fw), (av, kcI cI 400 fv), (ac, kcI cI 6060 fc)]) [0, 1, 2, 3] rfl, hD.sub (ws' := [(h, oX11 0 aw ai ab ac hi re aP ta po en be de fa a5 sp av an ak ne aW aC ag aT aN aF), (aw, kcI cI 2179 fw), (av, kcI cI 400 fv), (ac, kcI cI 6060 fc)]) [0, 1, 2, 3] (by decide) rfl, hS, lv_sub (l' := [(0, .ref h), (1, .int a1), (2, .int b1)]) hl [0, 1, 2] rfl⟩
      · skip
        have k94 : Rg r64 (-1) (-1) := rg_l1 (nleI c92) k66 (rg_lit (n := 0) (by decide)) (by decide)
        refine lv_aload_n hx hb dX11_give_44 rfl (lv_at hl 0 rfl) ?_
        refine lv_iload_n hx hb dX11_give_45 rfl (lv_at hl 2 rfl) ?_
        refine lv_iconst (v := 5) hx hb dX11_give_46 (by decide) ?_
        refine kpurei (wc := [(h, oX11 0 aw ai ab ac hi re aP ta po en be de fa a5 sp av an ak ne aW aC ag aT aN aF), (aw, kcI cI 2179 fw)]) hP hD hS hA [0, 1] rfl (by decide) (fun hPc hDc hFc => va_runV (As := [.int b1, .int 5]) (rest := [.ref h]) ⟨hx, hb, hml, hown, hts⟩ (r_of5 l D cI cJ cB cC h 0 aw ai ab ac hi re aP ta po en be de fa a5 sp av an ak ne aW aC ag aT aN aF fw b1 H.size kc13_0 H_fw_W) (cwV 2 hts gX11_give_X11_of rfl rfl rfl ⟨rfl, hdX11_of⟩ ⟨Nat.le_of_ble_eq_true rfl, Nat.le_of_ble_eq_true rfl⟩) ⟨kBlind, va_recv hK hPc (ci := 10) (q0 := 0) rfl rfl, fun U hU hW => ⟨rfl, by rw [hU], hN.warm hW, hE.pass hS hFc hW hU, by rw [hU]; exact hPc, va_K.moved hW.alike hK, hDc⟩⟩ rfl rfl hl.1 rfl (lv_room (Nat.le_of_ble_eq_true rfl)) dX11_give_47 ⟨Nat.le_of_ble_eq_true rfl, Nat.le_of_ble_eq_true rfl⟩) (fun r95 u H locs hw hP hS => ?_)
        obtain ⟨k96, k97, k98⟩ := hw
        refine lv_if_ge (tgt := 62) hx hb dX11_give_50 (by decide) (fun c99 => ?_) (fun c99 => ?_)
        · skip
          have k100 : Rg r95 0 9 := rg_e2 (leI c99) (rg_lit (n := 0) (by decide)) k97 (by decide)
          exact hJ62 (fv) _ _ _ ⟨(kLet_eq (k2).symm (kif_t rfl (kLet_eq (k12).symm (kif_t rfl (kLet_eq (k17).symm (kLet_eq (k67).symm (kif_f (xF_le c92) (kLet_eq (k98).symm (kif_t (leI c99) rfl))))))))), hP.sub (ws' := [(h, oX11 0 aw ai ab ac hi re aP ta po en be de fa a5 sp av an ak ne aW aC ag aT aN aF), (aw, kcI cI 2179 fw), (av, kcI cI 400 fv), (ac, kcI cI 6060 fc)]) [0, 1, 2, 3] rfl, hD.sub (ws' := [(h, oX11 0 aw ai ab ac hi re aP ta po en be de fa a5 sp av an ak ne aW aC ag aT aN aF), (aw, kcI cI 2179 fw), (av, kcI cI 400 fv), (ac, kcI cI 6060 fc)]) [0, 1, 2, 3] (by decide) rfl, hS, lv_sub (l' := [(0, .ref h), (1, .int a1), (2, .int b1)]) hl [0, 1, 2] rfl⟩
        · skip
          have k101 : Rg r95 (-1) (-1) := rg_l1 (nleI c99) k97 (rg_lit (n := 0) (by decide)) (by decide)
          refine lv_aload_n hx hb dX11_give_53 rfl (lv_at hl 0 rfl) ?_
          refine lv_iload_n hx hb dX11_give_54 rfl (lv_at hl 1 rfl) ?_
          refine lv_iload_n hx hb dX11_give_55 rfl (lv_at hl 2 rfl) ?_
          refine kcalli (wc := [(h, oX11 0 aw ai ab ac hi re aP ta po en be de fa a5 sp av an ak ne aW aC ag aT aN aF), (aw, kcI cI 2179 fw), (av, kcI cI 400 fv)]) (wr := [(ac, kcI cI 6060 fc)]) hP hD hS hA [0, 1, 2] [3] rfl rfl (by decide) (by decide) (by decide) (fun hPc hDc hFc => va_runV (As := [.int a1, .int b1]) (rest := [.ref h]) ⟨hx, hb, hml, hown, hts⟩ (r_isBarred l D cI cJ cB cC h 0 aw ai ab ac hi re aP ta po en be de fa a5 sp av an ak ne aW aC ag aT aN aF fw fv a1 b1 H.size kc3_0 kc13_0 H_fw_W H_fw_L) (cwV 2 hts gX11_give_X11_isBarred rfl rfl rfl ⟨rfl, hdX11_isBarred⟩ ⟨Nat.le_of_ble_eq_true rfl, Nat.le_of_ble_eq_true rfl⟩) ⟨kBlind, va_recv hK hPc (ci := 10) (q0 := 0) rfl rfl, fun U hU hW => ⟨rfl, by rw [hU], hN.warm hW, hE.pass hS hFc hW hU, by rw [hU]; exact hPc, va_K.moved hW.alike hK, hDc⟩⟩ rfl rfl hl.1 rfl (lv_room (Nat.le_of_ble_eq_true rfl)) dX11_give_56 ⟨Nat.le_of_ble_eq_true rfl, Nat.le_of_ble_eq_true rfl⟩) (fun r102 u H locs hw hP hD hS => ?_)
          obtain ⟨g103, rfl⟩ : ∃ z, z = u := ⟨_, rfl⟩
          have hP : va_P D vwCl [(ac, kcI cI 6060 fc), (h, oX11 0 aw ai ab ac hi re aP ta po en be de fa a5 sp av an ak ne aW aC ag aT aN aF), (aw, kcI cI 2179 fw), (av, kcI cI 400 g103)] H := hP
          have hD : va_D A [(ac, kcI cI 6060 fc), (h, oX11 0 aw ai ab ac hi re aP ta po en be de fa a5 sp av an ak ne aW aC ag aT aN aF), (aw, kcI cI 2179 fw), (av, kcI cI 400 g103)] := hD
          obtain ⟨k104, k105⟩ := hw
          refine lv_if_eq (tgt := 66) hx hb dX11_give_59 (by decide) (fun c106 => ?_) (fun c106 => ?_)
          · skip
            have k107 : Rg r102 0 0 := rg_q1 (eqI c106) k104 (rg_lit (n := 0) (by decide)) (by decide)
            refine lv_iconst (v := 0) hx hb dX11_give_66 (by decide) ?_
            refine lv_iconst (v := 2) hx hb dX11_give_67 (by decide) ?_
            refine kpurei (wc := [(h, oX11 0 aw ai ab ac hi re aP ta po en be de fa a5 sp av an ak ne aW aC ag aT aN aF)]) hP hD hS hA [1] rfl (by decide) (fun hPc hDc hFc => va_runV (As := [.int 0, .int 2]) (rest := []) ⟨hx, hb, hml, hown, hts⟩ (r_throwsIf0_1 l D cI cJ cB cC h 0 aw ai ab ac hi re aP ta po en be de fa a5 sp av an ak ne aW aC ag aT aN aF 2 H.size) (cwV 2 hts gX11_give_X11_throwsIf rfl rfl rfl ⟨rfl, hdX11_throwsIf⟩ ⟨Nat.le_of_ble_eq_true rfl, Nat.le_of_ble_eq_true rfl⟩) ⟨kBlind, va_recv hK hPc (ci := 10) (q0 := 0) rfl rfl, fun U hU hW => ⟨rfl, by rw [hU], hN.warm hW, hE.pass hS hFc hW hU, by rw [hU]; exact hPc, va_K.moved hW.alike hK, hDc⟩⟩ rfl rfl hl.1 rfl (lv_room (Nat.le_of_ble_eq_true rfl)) dX11_give_68 ⟨Nat.le_of_ble_eq_true rfl, Nat.le_of_ble_eq_true rfl⟩) (fun r108 u H locs hw hP hS => ?_)
            obtain ⟨k109, k110⟩ := hw
            refine lv_if_eq (tgt := 76) hx hb dX11_give_71 (by decide) (fun _ => ?_) (fun c111 => absurd (rg_eq k109 (rg_lit (n := 0) (by decide)) (by decide)) c111)
            refine lv_aload_n hx hb dX11_give_76 rfl (lv_at hl 0 rfl) ?_
            refine kcallv (wc := [(h, oX11 0 aw ai ab ac hi re aP ta po en be de fa a5 sp av an ak ne aW aC ag aT aN aF), (aw, kcI cI 2179 fw), (ac, kcI cI 6060 fc)]) (wr := [(av, kcI cI 400 g103)]) hP hD hS hA [1, 2, 0] [3] rfl rfl (by decide) (by decide) (by decide) (fun hPc hDc hFc => va_runV (As := []) (rest := []) ⟨hx, hb, hml, hown, hts⟩ (r_remembers l D cI cJ cB cC h 0 aw ai ab ac hi re aP ta po en be de fa a5 sp av an ak ne aW aC ag aT aN aF fw fc H.size H_re H_fw_W H_fw_B H_fw_L H_fc_C) (cwV 0 hts gX11_give_X11_remembers rfl rfl rfl ⟨rfl, hdX11_remembers⟩ ⟨Nat.le_of_ble_eq_true rfl, Nat.le_of_ble_eq_true rfl⟩) ⟨kBlind, va_recv hK hPc (ci := 10) (q0 := 0) rfl rfl, fun U hU hW => ⟨rfl, by rw [hU], hN.warm hW, hE.pass hS hFc hW hU, by rw [hU]; exact hPc, va_K.moved hW.alike hK, hDc⟩⟩ rfl rfl hl.1 rfl (lv_room (Nat.le_of_ble_eq_true rfl)) dX11_give_77 ⟨Nat.le_of_ble_eq_true rfl, Nat.le_of_ble_eq_true rfl⟩) (fun u H locs hw hP hD hS => ?_)
            obtain ⟨x112, g113⟩ := u
            have hP : va_P D vwCl [(av, kcI cI 400 g103), (h, oX11 0 aw ai ab ac hi x112 aP ta po en be de fa a5 sp av an ak ne aW aC ag aT aN aF), (aw, kcI cI 2179 fw), (ac, kcI cI 6060 g113)] H := hP
            have hD : va_D A [(av, kcI cI 400 g103), (h, oX11 0 aw ai ab ac hi x112 aP ta po en be de fa a5 sp av an ak ne aW aC ag aT aN aF), (aw, kcI cI 2179 fw), (ac, kcI cI 6060 g113)] := hD
            obtain ⟨k114, k115, k116⟩ := hw
            refine lv_aload_n hx hb dX11_give_80 rfl (lv_at hl 0 rfl) ?_
            refine lv_iload_n hx hb dX11_give_81 rfl (lv_at hl 1 rfl) ?_
            refine lv_iload_n hx hb dX11_give_82 rfl (lv_at hl 2 rfl) ?_
            refine kcallv (wc := [(h, oX11 0 aw ai ab ac hi x112 aP ta po en be de fa a5 sp av an ak ne aW aC ag aT aN aF), (aw, kcI cI 2179 fw)]) (wr := [(av, kcI cI 400 g103), (ac, kcI cI 6060 g113)]) hP hD hS hA [1, 2] [0, 3] rfl rfl (by decide) (by decide) (by decide) (fun hPc hDc hFc => va_runV (As := [.int a1, .int b1]) (rest := []) ⟨hx, hb, hml, hown, hts⟩ (r_gives l D cI cJ cB cC h 0 aw ai ab ac hi x112 aP ta po en be de fa a5 sp av an ak ne aW aC ag aT aN aF fw a1 b1 H.size kc3_0 kc13_0 H_fw_W H_fw_B H_fw_L) (cwV 2 hts gX11_give_X11_gives rfl rfl rfl ⟨rfl, hdX11_gives⟩ ⟨Nat.le_of_ble_eq_true rfl, Nat.le_of_ble_eq_true rfl⟩) ⟨kBlind, va_recv hK hPc (ci := 10) (q0 := 0) rfl rfl, fun U hU hW => ⟨rfl, by rw [hU], hN.warm hW, hE.pass hS hFc hW hU, by rw [hU]; exact hPc, va_K.moved hW.alike hK, hDc⟩⟩ rfl rfl hl.1 rfl (lv_room (Nat.le_of_ble_eq_true rfl)) dX11_give_83 ⟨Nat.le_of_ble_eq_true rfl, Nat.le_of_ble_eq_true rfl⟩) (fun u H locs hw hP hD hS => ?_)
            obtain ⟨g117, rfl⟩ : ∃ z, z = u := ⟨_, rfl⟩
            have hP : va_P D vwCl [(av, kcI cI 400 g103), (ac, kcI cI 6060 g113), (h, oX11 0 aw ai ab ac hi x112 aP ta po en be de fa a5 sp av an ak ne aW aC ag aT aN aF), (aw, kcI cI 2179 g117)] H := hP
            have hD : va_D A [(av, kcI cI 400 g103), (ac, kcI cI 6060 g113), (h, oX11 0 aw ai ab ac hi x112 aP ta po en be de fa a5 sp av an ak ne aW aC ag aT aN aF), (aw, kcI cI 2179 g117)] := hD
            obtain ⟨k118, k119, k120, k121⟩ := hw
            refine lv_aload_n hx hb dX11_give_86 rfl (lv_at hl 0 rfl) ?_
            refine lv_iload_n hx hb dX11_give_87 rfl (lv_at hl 2 rfl) ?_
            refine lv_iconst (v := 2) hx hb dX11_give_88 (by decide) ?_
            refine kpurei (wc := [(h, oX11 0 aw ai ab ac hi x112 aP ta po en be de fa a5 sp av an ak ne aW aC ag aT aN aF), (aw, kcI cI 2179 g117)]) hP hD hS hA [2, 3] rfl (by decide) (fun hPc hDc hFc => va_runV (As := [.int b1, .int 2]) (rest := []) ⟨hx, hb, hml, hown, hts⟩ (r_of2 l D cI cJ cB cC h 0 aw ai ab ac hi x112 aP ta po en be de fa a5 sp av an ak ne aW aC ag aT aN aF g117 b1 H.size kc13_0 k120) (cwV 2 hts gX11_give_X11_of rfl rfl rfl ⟨rfl, hdX11_of⟩ ⟨Nat.le_of_ble_eq_true rfl, Nat.le_of_ble_eq_true rfl⟩) ⟨kBlind, va_recv hK hPc (ci := 10) (q0 := 0) rfl rfl, fun U hU hW => ⟨rfl, by rw [hU], hN.warm hW, hE.pass hS hFc hW hU, by rw [hU]; exact hPc, va_K.moved hW.alike hK, hDc⟩⟩ rfl rfl hl.1 rfl (lv_room (Nat.le_of_ble_eq_true rfl)) dX11_give_89 ⟨Nat.le_of_ble_eq_true rfl, Nat.le_of_ble_eq_true rfl⟩) (fun r122 u H locs hw hP hS => ?_)
            obtain ⟨k123, k124⟩ := hw
            have hP9 := hP.sub (ws' := [(h, oX11 0 aw ai ab ac hi x112 aP ta po en be de fa a5 sp av an ak ne aW aC ag aT aN aF), (aw, kcI cI 2179 g117), (av, kcI cI 400 g103), (ac, kcI cI 6060 g113)]) [2, 3, 0, 1] rfl
            have hD9 := hD.sub (ws' := [(h, oX11 0 aw ai ab ac hi x112 aP ta po en be de fa a5 sp av an ak ne aW aC ag aT aN aF), (aw, kcI cI 2179 g117), (av, kcI cI 400 g103), (ac, kcI cI 6060 g113)]) [2, 3, 0, 1] (by decide) rfl
            exact W.iret (v := r122) hx hb hr (fun t ht hW => ⟨⟨r122, ((0 : Int32), x112, g117, g103, g113), rfl, ⟨(rg_w k114 (by decide)), k118, k119, k120, k115, (kLet_eq (k2).symm (kif_t rfl (kLet_eq (k12).symm (kif_t rfl (kLet_eq (k17).symm (kLet_eq (k67).symm (kif_f (xF_le c92) (kLet_eq (k98).symm (kif_f (xF_le c99) (kC_eq k105 (kif_t (eqI c106) (kLet_eq (k110).symm (kC_eq k116 (kLet_eq (k121).symm (kLet_eq (k124).symm rfl)))))))))))))))⟩, by rw [ht]; exact hP9, va_K.moved hW.alike hK, hD9⟩, hS.F ht⟩) hS.2.2 dX11_give_92
          · skip
            have k125 : Rg r102 1 1 := rg_n1 (neI c106) k104 (rg_lit (n := 0) (by decide)) (by decide)
            exact hJ62 (g103) _ _ _ ⟨(kLet_eq (k2).symm (kif_t rfl (kLet_eq (k12).symm (kif_t rfl (kLet_eq (k17).symm (kLet_eq (k67).symm (kif_f (xF_le c92) (kLet_eq (k98).symm (kif_f (xF_le c99) (kC_eq k105 (kif_f (neI c106) rfl))))))))))), hP.sub (ws' := [(h, oX11 0 aw ai ab ac hi re aP ta po en be de fa a5 sp av an ak ne aW aC ag aT aN aF), (aw, kcI cI 2179 fw), (av, kcI cI 400 g103), (ac, kcI cI 6060 fc)]) [1, 2, 3, 0] rfl, hD.sub (ws' := [(h, oX11 0 aw ai ab ac hi re aP ta po en be de fa a5 sp av an ak ne aW aC ag aT aN aF), (aw, kcI cI 2179 fw), (av, kcI cI 400 g103), (ac, kcI cI 6060 fc)]) [1, 2, 3, 0] (by decide) rfl, hS, lv_sub (l' := [(0, .ref h), (1, .int a1), (2, .int b1)]) hl [0, 1, 2] rfl⟩
    · skip
      refine lv_if_eq (tgt := 26) hx hb dX11_give_19 (by decide) (fun c126 => absurd c126 (by decide)) (fun _ => ?_)
      refine lv_iconst (v := 1) hx hb dX11_give_22 (by decide) ?_
      refine lv_goto (tgt := 27) hx hb dX11_give_23 (by decide) ?_
      refine lv_iconst (v := 1) hx hb dX11_give_27 (by decide) ?_
      refine kcalli (wc := [(h, oX11 0 aw ai ab ac hi re aP ta po en be de fa a5 sp av an ak ne aW aC ag aT aN aF)]) (wr := [(aw, kcI cI 2179 fw), (av, kcI cI 400 fv), (ac, kcI cI 6060 fc)]) hP hD hS hA [0] [1, 2, 3] rfl rfl (by decide) (by decide) (by decide) (fun hPc hDc hFc => va_runV (As := [.int 1, .int 1]) (rest := []) ⟨hx, hb, hml, hown, hts⟩ (r_throwsIf1_1 l D cI cJ cB cC h 0 aw ai ab ac hi re aP ta po en be de fa a5 sp av an ak ne aW aC ag aT aN aF 1 H.size) (cwV 2 hts gX11_give_X11_throwsIf rfl rfl rfl ⟨rfl, hdX11_throwsIf⟩ ⟨Nat.le_of_ble_eq_true rfl, Nat.le_of_ble_eq_true rfl⟩) ⟨kBlind, va_recv hK hPc (ci := 10) (q0 := 0) rfl rfl, fun U hU hW => ⟨rfl, by rw [hU], hN.warm hW, hE.pass hS hFc hW hU, by rw [hU]; exact hPc, va_K.moved hW.alike hK, hDc⟩⟩ rfl rfl hl.1 rfl (lv_room (Nat.le_of_ble_eq_true rfl)) dX11_give_28 ⟨Nat.le_of_ble_eq_true rfl, Nat.le_of_ble_eq_true rfl⟩) (fun r127 u H locs hw hP hD hS => ?_)
      obtain ⟨x128, rfl⟩ : ∃ z, z = u := ⟨_, rfl⟩
      have hP : va_P D vwCl [(aw, kcI cI 2179 fw), (av, kcI cI 400 fv), (ac, kcI cI 6060 fc), (h, oX11 x128 aw ai ab ac hi re aP ta po en be de fa a5 sp av an ak ne aW aC ag aT aN aF)] H := hP
      have hD : va_D A [(aw, kcI cI 2179 fw), (av, kcI cI 400 fv), (ac, kcI cI 6060 fc), (h, oX11 x128 aw ai ab ac hi re aP ta po en be de fa a5 sp av an ak ne aW aC ag aT aN aF)] := hD
      obtain ⟨k129, k130⟩ := hw
      refine lv_if_ne (tgt := 74) hx hb dX11_give_31 (by decide) (fun _ => ?_) (fun c132 => absurd c132 (rg_neq k129 (rg_lit (n := 0) (by decide)) (by decide)))
      refine lv_iconst (v := 0) hx hb dX11_give_74 (by decide) ?_
      have hP9 := hP.sub (ws' := [(h, oX11 x128 aw ai ab ac hi re aP ta po en be de fa a5 sp av an ak ne aW aC ag aT aN aF), (aw, kcI cI 2179 fw), (av, kcI cI 400 fv), (ac, kcI cI 6060 fc)]) [3, 0, 1, 2] rfl
      have hD9 := hD.sub (ws' := [(h, oX11 x128 aw ai ab ac hi re aP ta po en be de fa a5 sp av an ak ne aW aC ag aT aN aF), (aw, kcI cI 2179 fw), (av, kcI cI 400 fv), (ac, kcI cI 6060 fc)]) [3, 0, 1, 2] (by decide) rfl
      exact W.iret (v := 0) hx hb hr (fun t ht hW => ⟨⟨0, (x128, re, fw, fv, fc), rfl, ⟨H_re, H_fw_B, H_fw_L, H_fw_W, H_fc_C, (kLet_eq (k2).symm (kif_t rfl (kLet_eq (k12).symm (kif_f (by decide) (kC_eq k130 rfl)))))⟩, by rw [ht]; exact hP9, va_K.moved hW.alike hK, hD9⟩, hS.F ht⟩) hS.2.2 dX11_give_75
  · skip
    refine lv_if_ne (tgt := 22) hx hb dX11_give_11 (by decide) (fun _ => ?_) (fun c134 => absurd c134 (by decide))
    refine lv_iconst (v := 1) hx hb dX11_give_22 (by decide) ?_
    refine lv_goto (tgt := 27) hx hb dX11_give_23 (by decide) ?_
    refine lv_iconst (v := 1) hx hb dX11_give_27 (by decide) ?_
    refine kcalli (wc := [(h, oX11 0 aw ai ab ac hi re aP ta po en be de fa a5 sp av an ak ne aW aC ag aT aN aF)]) (wr := [(aw, kcI cI 2179 fw), (av, kcI cI 400 fv), (ac, kcI cI 6060 fc)]) hP hD hS hA [0] [1, 2, 3] rfl rfl (by decide) (by decide) (by decide) (fun hPc hDc hFc => va_runV (As := [.int 1, .int 1]) (rest := []) ⟨hx, hb, hml, hown, hts⟩ (r_throwsIf1_1 l D cI cJ cB cC h 0 aw ai ab ac hi re aP ta po en be de fa a5 sp av an ak ne aW aC ag aT aN aF 1 H.size) (cwV 2 hts gX11_give_X11_throwsIf rfl rfl rfl ⟨rfl, hdX11_throwsIf⟩ ⟨Nat.le_of_ble_eq_true rfl, Nat.le_of_ble_eq_true rfl⟩) ⟨kBlind, va_recv hK hPc (ci := 10) (q0 := 0) rfl rfl, fun U hU hW => ⟨rfl, by rw [hU], hN.warm hW, hE.pass hS hFc hW hU, by rw [hU]; exact hPc, va_K.moved hW.alike hK, hDc⟩⟩ rfl rfl hl.1 rfl (lv_room (Nat.le_of_ble_eq_true rfl)) dX11_give_28 ⟨Nat.le_of_ble_eq_true rfl, Nat.le_of_ble_eq_true rfl⟩) (fun r135 u H locs hw hP hD hS => ?_)
    obtain ⟨x136, rfl⟩ : ∃ z, z = u := ⟨_, rfl⟩
    have hP : va_P D vwCl [(aw, kcI cI 2179 fw), (av, kcI cI 400 fv), (ac, kcI cI 6060 fc), (h, oX11 x136 aw ai ab ac hi re aP ta po en be de fa a5 sp av an ak ne aW aC ag aT aN aF)] H := hP
    have hD : va_D A [(aw, kcI cI 2179 fw), (av, kcI cI 400 fv), (ac, kcI cI 6060 fc), (h, oX11 x136 aw ai ab ac hi re aP ta po en be de fa a5 sp av an ak ne aW aC ag aT aN aF)] := hD
    obtain ⟨k137, k138⟩ := hw
    refine lv_if_ne (tgt := 74) hx hb dX11_give_31 (by decide) (fun _ => ?_) (fun c140 => absurd c140 (rg_neq k137 (rg_lit (n := 0) (by decide)) (by decide)))
    refine lv_iconst (v := 0) hx hb dX11_give_74 (by decide) ?_
    have hP9 := hP.sub (ws' := [(h, oX11 x136 aw ai ab ac hi re aP ta po en be de fa a5 sp av an ak ne aW aC ag aT aN aF), (aw, kcI cI 2179 fw), (av, kcI cI 400 fv), (ac, kcI cI 6060 fc)]) [3, 0, 1, 2] rfl
    have hD9 := hD.sub (ws' := [(h, oX11 x136 aw ai ab ac hi re aP ta po en be de fa a5 sp av an ak ne aW aC ag aT aN aF), (aw, kcI cI 2179 fw), (av, kcI cI 400 fv), (ac, kcI cI 6060 fc)]) [3, 0, 1, 2] (by decide) rfl
    exact W.iret (v := 0) hx hb hr (fun t ht hW => ⟨⟨0, (x136, re, fw, fv, fc), rfl, ⟨H_re, H_fw_B, H_fw_L, H_fw_W, H_fc_C, (kLet_eq (k2).symm (kif_f (by decide) (kC_eq k138 rfl)))⟩, by rw [ht]; exact hP9, va_K.moved hW.alike hK, hD9⟩, hS.F ht⟩) hS.2.2 dX11_give_75

def kwX11_runsFrom : List Cond := .code yX11_runsFrom cX11_runsFrom 4 (some .boolean) :: kG
theorem hdX11_runsFrom : yX11_runsFrom.cls ≠ "java/lang/invoke/MethodHandle" ∧ yX11_runsFrom.cls ≠ "java/lang/invoke/VarHandle" ∧ (parseMethodDescriptor yX11_runsFrom.desc).map (fun d => d.parameters.length) = some 2 := by decide +kernel
theorem gX11_runsFrom_X11_draw : GoodIn kG (wsV RX11 301 RX11 yX11_draw kwX11_draw) := gK w34_4 (gK w34_5 (gK w34_6 (gK w0_5 (gK w34_7 gGG))))
theorem gX11_runsFrom_X11_in : GoodIn kG (va_wsS RX11 75 yX11_in kwX11_in) := gK w27_8 (gK w27_9 (gK w0_5 (gK w27_10 gGG)))
theorem gX11_runsFrom_X11_of : GoodIn kG (wsV RX11 156 RX11 yX11_of kwX11_of) := gK w21_9 (gK w21_10 (gK w21_11 (gK w0_5 (gK w21_12 gGG))))
theorem gX11_runsFrom_X11_sets : GoodIn kG (wsV RX11 150 RX11 yX11_sets kwX11_sets) := gK w20_21 (gK w20_22 (gK w20_23 (gK w0_5 (gK w21_0 gGG))))
theorem dX11_runsFrom_0 : decode cX11_runsFrom 0 = .ok (.iload_n 2, 1) := by decide +kernel
theorem dX11_runsFrom_1 : decode cX11_runsFrom 1 = .ok (.iconst 0, 1) := by decide +kernel
theorem dX11_runsFrom_2 : decode cX11_runsFrom 2 = .ok (.aload_n 0, 1) := by decide +kernel
theorem dX11_runsFrom_3 : decode cX11_runsFrom 3 = .ok (.getfield 89, 3) := by decide +kernel
theorem dX11_runsFrom_6 : decode cX11_runsFrom 6 = .ok (.iconst 1, 1) := by decide +kernel
theorem dX11_runsFrom_7 : decode cX11_runsFrom 7 = .ok (.isub, 1) := by decide +kernel
theorem dX11_runsFrom_8 : decode cX11_runsFrom 8 = .ok (.invokestatic 75, 3) := by decide +kernel
theorem dX11_runsFrom_11 : decode cX11_runsFrom 11 = .ok (.ifCond .ne 5, 3) := by decide +kernel
theorem dX11_runsFrom_14 : decode cX11_runsFrom 14 = .ok (.iconst 0, 1) := by decide +kernel
theorem dX11_runsFrom_15 : decode cX11_runsFrom 15 = .ok (.ireturn, 1) := by decide +kernel
theorem dX11_runsFrom_16 : decode cX11_runsFrom 16 = .ok (.aload_n 0, 1) := by decide +kernel
theorem dX11_runsFrom_17 : decode cX11_runsFrom 17 = .ok (.aload_n 0, 1) := by decide +kernel
theorem dX11_runsFrom_18 : decode cX11_runsFrom 18 = .ok (.getfield 26, 3) := by decide +kernel
theorem dX11_runsFrom_21 : decode cX11_runsFrom 21 = .ok (.iload_n 2, 1) := by decide +kernel
theorem dX11_runsFrom_22 : decode cX11_runsFrom 22 = .ok (.baload, 1) := by decide +kernel
theorem dX11_runsFrom_23 : decode cX11_runsFrom 23 = .ok (.bipush 97, 2) := by decide +kernel
theorem dX11_runsFrom_25 : decode cX11_runsFrom 25 = .ok (.isub, 1) := by decide +kernel
theorem dX11_runsFrom_26 : decode cX11_runsFrom 26 = .ok (.iconst 0, 1) := by decide +kernel
theorem dX11_runsFrom_27 : decode cX11_runsFrom 27 = .ok (.invokevirtual 156, 3) := by decide +kernel
theorem dX11_runsFrom_30 : decode cX11_runsFrom 30 = .ok (.istore_n 3, 1) := by decide +kernel
theorem dX11_runsFrom_31 : decode cX11_runsFrom 31 = .ok (.iload_n 3, 1) := by decide +kernel
theorem dX11_runsFrom_32 : decode cX11_runsFrom 32 = .ok (.ifCond .eq 19, 3) := by decide +kernel
theorem dX11_runsFrom_35 : decode cX11_runsFrom 35 = .ok (.aload_n 0, 1) := by decide +kernel
theorem dX11_runsFrom_36 : decode cX11_runsFrom 36 = .ok (.bipush 100, 2) := by decide +kernel
theorem dX11_runsFrom_38 : decode cX11_runsFrom 38 = .ok (.invokevirtual 301, 3) := by decide +kernel
theorem dX11_runsFrom_41 : decode cX11_runsFrom 41 = .ok (.aload_n 0, 1) := by decide +kernel
theorem dX11_runsFrom_42 : decode cX11_runsFrom 42 = .ok (.getfield 13, 3) := by decide +kernel
theorem dX11_runsFrom_45 : decode cX11_runsFrom 45 = .ok (.bipush 8, 2) := by decide +kernel
theorem dX11_runsFrom_47 : decode cX11_runsFrom 47 = .ok (.iaload, 1) := by decide +kernel
theorem dX11_runsFrom_48 : decode cX11_runsFrom 48 = .ok (.if_icmp .lt 5, 3) := by decide +kernel
theorem dX11_runsFrom_51 : decode cX11_runsFrom 51 = .ok (.iconst 0, 1) := by decide +kernel
theorem dX11_runsFrom_52 : decode cX11_runsFrom 52 = .ok (.ireturn, 1) := by decide +kernel
theorem dX11_runsFrom_53 : decode cX11_runsFrom 53 = .ok (.aload_n 0, 1) := by decide +kernel
theorem dX11_runsFrom_54 : decode cX11_runsFrom 54 = .ok (.iload_n 1, 1) := by decide +kernel
theorem dX11_runsFrom_55 : decode cX11_runsFrom 55 = .ok (.iconst 0, 1) := by decide +kernel
theorem dX11_runsFrom_56 : decode cX11_runsFrom 56 = .ok (.iload_n 3, 1) := by decide +kernel
theorem dX11_runsFrom_57 : decode cX11_runsFrom 57 = .ok (.invokevirtual 150, 3) := by decide +kernel
theorem dX11_runsFrom_60 : decode cX11_runsFrom 60 = .ok (.iconst 1, 1) := by decide +kernel
theorem dX11_runsFrom_61 : decode cX11_runsFrom 61 = .ok (.ireturn, 1) := by decide +kernel
set_option maxHeartbeats 4000000 in
set_option maxRecDepth 100000 in
/-- reference: runsFrom -/
theorem r_runsFrom (l : Launch) (D : va_G) (cI cJ cB cC : ClassId) (h : Nat) (th : Int32) (aw : Nat) (ai : Nat) (ab : Nat) (ac : Nat) (hi : Int32) (re : Int32) (aP : Nat) (ta : Int32) (po : Int32) (en : Int32) (be : Int32) (de : Int32) (fa : Int32) (a5 : Nat) (sp : Int32) (av : Nat) (an : Nat) (ak : Nat) (ne : Int32) (aW : Nat) (aC : Nat) (ag : Nat) (aT : Nat) (aN : Nat) (aF : Nat) (fw : Nat → Int32) (ft : Nat → Int32) (mm : Int32) (at_ : Int32) (sz : Nat) (H_mm : Rg mm 0 11) (H_en : Rg en 0 400) (H_fw_W : wW fw) (H_fw_B : wB fw) (H_fw_L : wL fw) (H_HT : ∀ j : Nat, (j : Int) < (en : Int32).toInt → Rg (ft j) 97 108) : Met l yX11_runsFrom kwX11_runsFrom ({ frames := 1, cells := 0, slots := 0, locals := 23 } : Room) (kPre D (kT cI cJ cB cC) sz [(h, oX11 th aw ai ab ac hi re aP ta po en be de fa a5 sp av an ak ne aW aC ag aT aN aF), (aw, kcI cI 2179 fw), (aP, .inl (cB, 400, .inl ft))] [.ref h, .int mm, .int at_]) (va_Qi (fun (r : Int32) (f0_ : (Nat → Int32)) => wB f0_ ∧ wL f0_ ∧ wW f0_ ∧ Rg r 0 1 ∧ F_r_runsFrom (en : Int32).toInt (gT fw) (gT ft) (mm : Int32).toInt (at_ : Int32).toInt = ((r : Int32).toInt, (gT f0_))) (fun (f0_ : (Nat → Int32)) (t : State) => kB D (kT cI cJ cB cC) (va_A [(h, oX11 th aw ai ab ac hi re aP ta po en be de fa a5 sp av an ak ne aW aC ag aT aN aF), (aw, kcI cI 2179 fw), (aP, .inl (cB, 400, .inl ft))] sz) [(h, oX11 th aw ai ab ac hi re aP ta po en be de fa a5 sp av an ak ne aW aC ag aT aN aF), (aw, kcI cI 2179 f0_), (aP, .inl (cB, 400, .inl ft))] t) (va_A [(h, oX11 th aw ai ab ac hi re aP ta po en be de fa a5 sp av an ak ne aW aC ag aT aN aF), (aw, kcI cI 2179 fw), (aP, .inl (cB, 400, .inl ft))] sz)) 0 0 (va_A [(h, oX11 th aw ai ab ac hi re aP ta po en be de fa a5 sp av an ak ne aW aC ag aT aN aF), (aw, kcI cI 2179 fw), (aP, .inl (cB, 400, .inl ft))] sz) := by
  refine Met.ofW (cc := cX11_runsFrom) (maxL := 4) (ret := (some .boolean)) (by decide) rfl ?_
  intro p e s m args below meth c s₁ B hml hv
  obtain ⟨rfl, hsz, hN, hE, hP, hK, hD0⟩ := hv
  have hx := B.exec
  have hb := B.bytes
  have hr := B.returns
  have hts := fun (w : Cond) (h : w ∈ kG) => atoms_spec (ws := kwX11_runsFrom) B.pre w (List.mem_cons_of_mem _ h)
  have hown : s.vm.findClass RX11 = some m.cls := findClass_of_methodNamed B.named
  subst hsz
  have hD := hD0.self (sz := s.heap.size)
  generalize hAe : va_A [(h, oX11 th aw ai ab ac hi re aP ta po en be de fa a5 sp av an ak ne aW aC ag aT aN aF), (aw, kcI cI 2179 fw), (aP, .inl (cB, 400, .inl ft))] s.heap.size = A at hD hE ⊢
  have hA : ∀ q : Nat, s.heap.size ≤ q → A q := fun q h => by rw [← hAe]; exact Or.inr h
  have hl := lv_entry ([.ref h, .int mm, .int at_]) (n := 4) (Nat.le_of_ble_eq_true rfl)
  rw [lg_entry_eq]
  generalize (lg_sl ([.ref h, .int mm, .int at_]) ++ List.replicate (4 - (lg_sl ([.ref h, .int mm, .int at_])).length) Slot.unset).toArray = ls at hl ⊢
  have hl : lv_has ls 4 [(0, .ref h), (1, .int mm), (2, .int at_)] := hl
  obtain ⟨H, hH0⟩ : ∃ H, H = s.heap := ⟨_, rfl⟩
  have hS : va_S A s.heap H [] := by rw [hH0]; exact va_S.rf
  have hP : va_P D vwCl [(h, oX11 th aw ai ab ac hi re aP ta po en be de fa a5 sp av an ak ne aW aC ag aT aN aF), (aw, kcI cI 2179 fw), (aP, .inl (cB, 400, .inl ft))] H := by rw [hH0]; exact hP
  refine kHeap hH0 ?_
  clear hH0
  refine lv_iload_n hx hb dX11_runsFrom_0 rfl (lv_at hl 2 rfl) ?_
  refine lv_iconst (v := 0) hx hb dX11_runsFrom_1 (by decide) ?_
  refine lv_aload_n hx hb dX11_runsFrom_2 rfl (lv_at hl 0 rfl) ?_
  refine va_get (D := D) (ci := 10) (v := .int en) (C := RX11) (T := TX11) (N := 26) hx hb hts iG_X11 hown hK hP 0 rfl rfl 10 (by decide) (hts _ w18_6) (fun _ h9 => h9) rfl dX11_runsFrom_3 ?_
  refine lv_iconst (v := 1) hx hb dX11_runsFrom_6 (by decide) ?_
  refine lv_isub hx hb dX11_runsFrom_7 ?_
  refine lv_topi (fun x1 ex1 => ?_)
  have tx1 : x1.toInt = en.toInt - 1 := ti_sub ex1 H_en (rg_lit (n := 1) (by decide)) (by decide) rfl (by decide)
  have k2 : Rg x1 (-1) 399 := rg_sub ex1 H_en (rg_lit (n := 1) (by decide)) (by decide)
  refine kpurei (wc := []) hP hD hS hA [] rfl (by decide) (fun hPc hDc hFc => va_runS (As := [.int at_, .int 0, .int x1]) (rest := []) ⟨hx, hb, hml, hown, hts⟩ (r_in_end l D cI cJ cB cC at_ x1 H.size k2) (va_cwS 3 hts gX11_runsFrom_X11_in rfl rfl rfl hdX11_in ⟨Nat.le_of_ble_eq_true rfl, Nat.le_of_ble_eq_true rfl⟩) ⟨kBlind, fun U hU hW => ⟨rfl, by rw [hU], hN.warm hW, hE.pass hS hFc hW hU, by rw [hU]; exact hPc, va_K.moved hW.alike hK, hDc⟩⟩ rfl rfl hl.1 rfl (lv_room (Nat.le_of_ble_eq_true rfl)) dX11_runsFrom_8 ⟨Nat.le_of_ble_eq_true rfl, Nat.le_of_ble_eq_true rfl⟩) (fun r3 u H locs hw hP hS => ?_)
  obtain ⟨k4, hw⟩ := hw
  rcases hw with rfl | ⟨rfl, kc5_0, kc5_1, kc5_2⟩
  · skip
    refine lv_if_ne (tgt := 16) hx hb dX11_runsFrom_11 (by decide) (fun c6 => absurd (by decide) c6) (fun _ => ?_)
    refine lv_iconst (v := 0) hx hb dX11_runsFrom_14 (by decide) ?_
    have hP9 := hP.sub (ws' := [(h, oX11 th aw ai ab ac hi re aP ta po en be de fa a5 sp av an ak ne aW aC ag aT aN aF), (aw, kcI cI 2179 fw), (aP, .inl (cB, 400, .inl ft))]) [0, 1, 2] rfl
    have hD9 := hD.sub (ws' := [(h, oX11 th aw ai ab ac hi re aP ta po en be de fa a5 sp av an ak ne aW aC ag aT aN aF), (aw, kcI cI 2179 fw), (aP, .inl (cB, 400, .inl ft))]) [0, 1, 2] (by decide) rfl
    exact W.zret (v := 0) hx hb hr (by decide) (fun t ht hW => ⟨⟨0, (fw), rfl, ⟨H_fw_B, H_fw_L, H_fw_W, (rg_w (rg_lit (n := 0) (by decide)) (by decide)), (kLet_eq (ti_sub ex1 H_en (rg_lit (n := 1) (by decide)) (by decide) rfl rfl) (kLet_eq (k4).symm (kif_t rfl rfl)))⟩, by rw [ht]; exact hP9, va_K.moved hW.alike hK, hD9⟩, hS.F ht⟩) hS.2.2 dX11_runsFrom_15
  · skip
    refine lv_if_ne (tgt := 16) hx hb dX11_runsFrom_11 (by decide) (fun _ => ?_) (fun c7 => absurd c7 (by decide))
    refine lv_aload_n hx hb dX11_runsFrom_16 rfl (lv_at hl 0 rfl) ?_
    refine lv_aload_n hx hb dX11_runsFrom_17 rfl (lv_at hl 0 rfl) ?_
    refine va_get (D := D) (ci := 10) (v := .ref aP) (C := RX11) (T := TX11) (N := 26) hx hb hts iG_X11 hown hK hP 0 rfl rfl 7 (by decide) (hts _ w5_8) (fun _ h9 => h9) rfl dX11_runsFrom_18 ?_
    refine lv_iload_n hx hb dX11_runsFrom_21 rfl (lv_at hl 2 rfl) ?_
    refine va_bald hx hb hK hP 2 2 rfl rfl (rg_in kc5_0 (by decide)) dX11_runsFrom_22 ?_
    refine lv_topi (fun x8 ex8 => ?_)
    have k9 : Rg x8 97 108 := (by rw [ex8, cl_of (k := cN at_) kc5_0 (by decide) (by simp only [cN]; have q1 := kc5_0; unfold Rg at q1; omega)]; exact H_HT (cN at_) (by simp only [cN]; have q1 := kc5_0; have q2 := kc5_2; have q3 := tx1; unfold Rg at *; omega))
    refine lv_bipush (v := 97) hx hb dX11_runsFrom_23 (by decide) ?_
    refine lv_isub hx hb dX11_runsFrom_25 ?_
    refine lv_topi (fun x10 ex10 => ?_)
    have tx10 : x10.toInt = x8.toInt - 97 := ti_sub ex10 k9 (rg_lit (n := 97) (by decide)) (by decide) rfl (by decide)
    have k11 : Rg x10 0 11 := rg_sub ex10 k9 (rg_lit (n := 97) (by decide)) (by decide)
    refine lv_iconst (v := 0) hx hb dX11_runsFrom_26 (by decide) ?_
    refine kpurei (wc := [(h, oX11 th aw ai ab ac hi re aP ta po en be de fa a5 sp av an ak ne aW aC ag aT aN aF), (aw, kcI cI 2179 fw)]) hP hD hS hA [0, 1] rfl (by decide) (fun hPc hDc hFc => va_runV (As := [.int x10, .int 0]) (rest := []) ⟨hx, hb, hml, hown, hts⟩ (r_of0 l D cI cJ cB cC h th aw ai ab ac hi re aP ta po en be de fa a5 sp av an ak ne aW aC ag aT aN aF fw x10 H.size k11 H_fw_W) (cwV 2 hts gX11_runsFrom_X11_of rfl rfl rfl ⟨rfl, hdX11_of⟩ ⟨Nat.le_of_ble_eq_true rfl, Nat.le_of_ble_eq_true rfl⟩) ⟨kBlind, va_recv hK hPc (ci := 10) (q0 := 0) rfl rfl, fun U hU hW => ⟨rfl, by rw [hU], hN.warm hW, hE.pass hS hFc hW hU, by rw [hU]; exact hPc, va_K.moved hW.alike hK, hDc⟩⟩ rfl rfl hl.1 rfl (lv_room (Nat.le_of_ble_eq_true rfl)) dX11_runsFrom_27 ⟨Nat.le_of_ble_eq_true rfl, Nat.le_of_ble_eq_true rfl⟩) (fun r12 u H locs hw hP hS => ?_)
    obtain ⟨k13, k14⟩ := hw
    refine lv_istore_n (lv' := [(3, .int r12), (0, .ref h), (1, .int mm), (2, .int at_)]) hx hb dX11_runsFrom_30 rfl hl (by decide) rfl (fun ls hl => ?_)
    refine lv_iload_n hx hb dX11_runsFrom_31 rfl (lv_at hl 0 rfl) ?_
    refine k_join (hd := 51) (cells2 := 0) (slots2 := 0) (fun (g34 : (Nat → Int32)) => []) (fun (g34 : (Nat → Int32)) (H : Heap) (locs : List Loc) (ls : Array Slot) => (F_r_runsFrom en.toInt (gT fw) (gT ft) mm.toInt at_.toInt = F_r_runsFrom_j1 (gT g34)) ∧ wB g34 ∧ wL g34 ∧ wW g34 ∧ va_P D vwCl [(h, oX11 th aw ai ab ac hi re aP ta po en be de fa a5 sp av an ak ne aW aC ag aT aN aF), (aw, kcI cI 2179 g34), (aP, .inl (cB, 400, .inl ft))] H ∧ va_D A [(h, oX11 th aw ai ab ac hi re aP ta po en be de fa a5 sp av an ak ne aW aC ag aT aN aF), (aw, kcI cI 2179 g34), (aP, .inl (cB, 400, .inl ft))] ∧ va_S A s.heap H locs ∧ lv_has ls 4 [(3, .int r12), (0, .ref h), (1, .int mm), (2, .int at_)]) (fun u H locs ls hI => ?_) (fun hJ51 => ?_)
    · skip
      clear hP hD hS hl
      obtain ⟨g34, rfl⟩ : ∃ z, z = u := ⟨_, rfl⟩
      obtain ⟨hF1, hg34_0, hg34_1, hg34_2, hP, hD, hS, hl⟩ := hI
      have hP : va_P D vwCl [(h, oX11 th aw ai ab ac hi re aP ta po en be de fa a5 sp av an ak ne aW aC ag aT aN aF), (aw, kcI cI 2179 g34), (aP, .inl (cB, 400, .inl ft))] H := hP
      have hD : va_D A [(h, oX11 th aw ai ab ac hi re aP ta po en be de fa a5 sp av an ak ne aW aC ag aT aN aF), (aw, kcI cI 2179 g34), (aP, .inl (cB, 400, .inl ft))] := hD
      have hl : lv_has ls 4 [(3, .int r12), (0, .ref h), (1, .int mm), (2, .int at_)] := hl
      refine lv_iconst (v := 0) hx hb dX11_runsFrom_51 (by decide) ?_
      have hP9 := hP.sub (ws' := [(h, oX11 th aw ai ab ac hi re aP ta po en be de fa a5 sp av an ak ne aW aC ag aT aN aF), (aw, kcI cI 2179 g34), (aP, .inl (cB, 400, .inl ft))]) [0, 1, 2] rfl
      have hD9 := hD.sub (ws' := [(h, oX11 th aw ai ab ac hi re aP ta po en be de fa a5 sp av an ak ne aW aC ag aT aN aF), (aw, kcI cI 2179 g34), (aP, .inl (cB, 400, .inl ft))]) [0, 1, 2] (by decide) rfl
      exact W.zret (v := 0) hx hb hr (by decide) (fun t ht hW => ⟨⟨0, (g34), rfl, ⟨hg34_0, hg34_1, hg34_2, (rg_w (rg_lit (n := 0) (by decide)) (by decide)), (hF1.trans rfl)⟩, by rw [ht]; exact hP9, va_K.moved hW.alike hK, hD9⟩, hS.F ht⟩) hS.2.2 dX11_runsFrom_52
    refine lv_if_eq (tgt := 51) hx hb dX11_runsFrom_32 (by decide) (fun c35 => ?_) (fun c35 => ?_)
    · skip
      have k36 : Rg r12 0 0 := rg_q1 (eqI c35) (rg_any r12) (rg_lit (n := 0) (by decide)) (by decide)
      exact hJ51 (fw) _ _ _ ⟨(kLet_eq (ti_sub ex1 H_en (rg_lit (n := 1) (by decide)) (by decide) rfl rfl) (kLet_eq (k4).symm (kif_f (by decide) (kLet_eq (ke_ld ex8) (kLet_eq (ti_sub ex10 k9 (rg_lit (n := 97) (by decide)) (by decide) rfl rfl) (kLet_eq (k14).symm (kif_t (eqI c35) rfl))))))), H_fw_B, H_fw_L, H_fw_W, hP.sub (ws' := [(h, oX11 th aw ai ab ac hi re aP ta po en be de fa a5 sp av an ak ne aW aC ag aT aN aF), (aw, kcI cI 2179 fw), (aP, .inl (cB, 400, .inl ft))]) [0, 1, 2] rfl, hD.sub (ws' := [(h, oX11 th aw ai ab ac hi re aP ta po en be de fa a5 sp av an ak ne aW aC ag aT aN aF), (aw, kcI cI 2179 fw), (aP, .inl (cB, 400, .inl ft))]) [0, 1, 2] (by decide) rfl, hS, lv_sub (l' := [(3, .int r12), (0, .ref h), (1, .int mm), (2, .int at_)]) hl [0, 1, 2, 3] rfl⟩
    · skip
      refine lv_aload_n hx hb dX11_runsFrom_35 rfl (lv_at hl 1 rfl) ?_
      refine lv_bipush (v := 100) hx hb dX11_runsFrom_36 (by decide) ?_
      refine kcalli (wc := [(h, oX11 th aw ai ab ac hi re aP ta po en be de fa a5 sp av an ak ne aW aC ag aT aN aF), (aw, kcI cI 2179 fw)]) (wr := [(aP, .inl (cB, 400, .inl ft))]) hP hD hS hA [0, 1] [2] rfl rfl (by decide) (by decide) (by decide) (fun hPc hDc hFc => va_runV (As := [.int 100]) (rest := []) ⟨hx, hb, hml, hown, hts⟩ (r_draw l D cI cJ cB cC h th aw ai ab ac hi re aP ta po en be de fa a5 sp av an ak ne aW aC ag aT aN aF fw 100 H.size (rg_w (rg_lit (n := 100) (by decide)) (by decide)) H_fw_W H_fw_B H_fw_L) (cwV 1 hts gX11_runsFrom_X11_draw rfl rfl rfl ⟨rfl, hdX11_draw⟩ ⟨Nat.le_of_ble_eq_true rfl, Nat.le_of_ble_eq_true rfl⟩) ⟨kBlind, va_recv hK hPc (ci := 10) (q0 := 0) rfl rfl, fun U hU hW => ⟨rfl, by rw [hU], hN.warm hW, hE.pass hS hFc hW hU, by rw [hU]; exact hPc, va_K.moved hW.alike hK, hDc⟩⟩ rfl rfl hl.1 rfl (lv_room (Nat.le_of_ble_eq_true rfl)) dX11_runsFrom_38 ⟨Nat.le_of_ble_eq_true rfl, Nat.le_of_ble_eq_true rfl⟩) (fun r37 u H locs hw hP hD hS => ?_)
      obtain ⟨g38, rfl⟩ : ∃ z, z = u := ⟨_, rfl⟩
      have hP : va_P D vwCl [(aP, .inl (cB, 400, .inl ft)), (h, oX11 th aw ai ab ac hi re aP ta po en be de fa a5 sp av an ak ne aW aC ag aT aN aF), (aw, kcI cI 2179 g38)] H := hP
      have hD : va_D A [(aP, .inl (cB, 400, .inl ft)), (h, oX11 th aw ai ab ac hi re aP ta po en be de fa a5 sp av an ak ne aW aC ag aT aN aF), (aw, kcI cI 2179 g38)] := hD
      obtain ⟨k39, k40, k41, k42, k43⟩ := hw
      refine lv_aload_n hx hb dX11_runsFrom_41 rfl (lv_at hl 1 rfl) ?_
      refine va_get (D := D) (ci := 10) (v := .ref aw) (C := RX11) (T := TX11) (N := 26) hx hb hts iG_X11 hown hK hP 1 rfl rfl 1 (by decide) (hts _ w5_3) (fun _ h9 => h9) rfl dX11_runsFrom_42 ?_
      refine lv_bipush (v := 8) hx hb dX11_runsFrom_45 (by decide) ?_
      refine va_iald hx hb hK hP 2 0 rfl rfl (rg_in (rg_lit (n := 8) (by decide)) (by decide)) dX11_runsFrom_47 ?_
      refine lv_topi (fun x44 ex44 => ?_)
      refine lv_icmp_lt (tgt := 53) hx hb dX11_runsFrom_48 (by decide) (fun c45 => ?_) (fun c45 => ?_)
      · skip
        have k46 : Rg x44 1 2147483647 := rg_l2 (ltI c45) k42 (rg_any x44) (by decide)
        refine lv_aload_n hx hb dX11_runsFrom_53 rfl (lv_at hl 1 rfl) ?_
        refine lv_iload_n hx hb dX11_runsFrom_54 rfl (lv_at hl 2 rfl) ?_
        refine lv_iconst (v := 0) hx hb dX11_runsFrom_55 (by decide) ?_
        refine lv_iload_n hx hb dX11_runsFrom_56 rfl (lv_at hl 0 rfl) ?_
        refine kcallv (wc := [(h, oX11 th aw ai ab ac hi re aP ta po en be de fa a5 sp av an ak ne aW aC ag aT aN aF), (aw, kcI cI 2179 g38)]) (wr := [(aP, .inl (cB, 400, .inl ft))]) hP hD hS hA [1, 2] [0] rfl rfl (by decide) (by decide) (by decide) (fun hPc hDc hFc => va_runV (As := [.int mm, .int 0, .int r12]) (rest := []) ⟨hx, hb, hml, hown, hts⟩ (r_sets0 l D cI cJ cB cC h th aw ai ab ac hi re aP ta po en be de fa a5 sp av an ak ne aW aC ag aT aN aF g38 mm r12 H.size H_mm k41 k39 k40) (cwV 3 hts gX11_runsFrom_X11_sets rfl rfl rfl ⟨rfl, hdX11_sets⟩ ⟨Nat.le_of_ble_eq_true rfl, Nat.le_of_ble_eq_true rfl⟩) ⟨kBlind, va_recv hK hPc (ci := 10) (q0 := 0) rfl rfl, fun U hU hW => ⟨rfl, by rw [hU], hN.warm hW, hE.pass hS hFc hW hU, by rw [hU]; exact hPc, va_K.moved hW.alike hK, hDc⟩⟩ rfl rfl hl.1 rfl (lv_room (Nat.le_of_ble_eq_true rfl)) dX11_runsFrom_57 ⟨Nat.le_of_ble_eq_true rfl, Nat.le_of_ble_eq_true rfl⟩) (fun u H locs hw hP hD hS => ?_)
        obtain ⟨g47, rfl⟩ : ∃ z, z = u := ⟨_, rfl⟩
        have hP : va_P D vwCl [(aP, .inl (cB, 400, .inl ft)), (h, oX11 th aw ai ab ac hi re aP ta po en be de fa a5 sp av an ak ne aW aC ag aT aN aF), (aw, kcI cI 2179 g47)] H := hP
        have hD : va_D A [(aP, .inl (cB, 400, .inl ft)), (h, oX11 th aw ai ab ac hi re aP ta po en be de fa a5 sp av an ak ne aW aC ag aT aN aF), (aw, kcI cI 2179 g47)] := hD
        obtain ⟨k48, k49, k50, k51⟩ := hw
        refine lv_iconst (v := 1) hx hb dX11_runsFrom_60 (by decide) ?_
        have hP9 := hP.sub (ws' := [(h, oX11 th aw ai ab ac hi re aP ta po en be de fa a5 sp av an ak ne aW aC ag aT aN aF), (aw, kcI cI 2179 g47), (aP, .inl (cB, 400, .inl ft))]) [1, 2, 0] rfl
        have hD9 := hD.sub (ws' := [(h, oX11 th aw ai ab ac hi re aP ta po en be de fa a5 sp av an ak ne aW aC ag aT aN aF), (aw, kcI cI 2179 g47), (aP, .inl (cB, 400, .inl ft))]) [1, 2, 0] (by decide) rfl
        exact W.zret (v := 1) hx hb hr (by decide) (fun t ht hW => ⟨⟨1, (g47), rfl, ⟨k48, k49, k50, (rg_w (rg_lit (n := 1) (by decide)) (by decide)), (kLet_eq (ti_sub ex1 H_en (rg_lit (n := 1) (by decide)) (by decide) rfl rfl) (kLet_eq (k4).symm (kif_f (by decide) (kLet_eq (ke_ld ex8) (kLet_eq (ti_sub ex10 k9 (rg_lit (n := 97) (by decide)) (by decide) rfl rfl) (kLet_eq (k14).symm (kif_f (neI c35) (kC_eq k43 (kLet_eq (ke_ld ex44) (kif_t (ltI c45) (kLet_eq (k51).symm rfl)))))))))))⟩, by rw [ht]; exact hP9, va_K.moved hW.alike hK, hD9⟩, hS.F ht⟩) hS.2.2 dX11_runsFrom_61
      · skip
        have k52 : Rg x44 (-2147483648) 99 := rg_e1 (nltI c45) (rg_any x44) k42 (by decide)
        exact hJ51 (g38) _ _ _ ⟨(kLet_eq (ti_sub ex1 H_en (rg_lit (n := 1) (by decide)) (by decide) rfl rfl) (kLet_eq (k4).symm (kif_f (by decide) (kLet_eq (ke_ld ex8) (kLet_eq (ti_sub ex10 k9 (rg_lit (n := 97) (by decide)) (by decide) rfl rfl) (kLet_eq (k14).symm (kif_f (neI c35) (kC_eq k43 (kLet_eq (ke_ld ex44) (kif_f (xF_lt c45) rfl)))))))))), k39, k40, k41, hP.sub (ws' := [(h, oX11 th aw ai ab ac hi re aP ta po en be de fa a5 sp av an ak ne aW aC ag aT aN aF), (aw, kcI cI 2179 g38), (aP, .inl (cB, 400, .inl ft))]) [1, 2, 0] rfl, hD.sub (ws' := [(h, oX11 th aw ai ab ac hi re aP ta po en be de fa a5 sp av an ak ne aW aC ag aT aN aF), (aw, kcI cI 2179 g38), (aP, .inl (cB, 400, .inl ft))]) [1, 2, 0] (by decide) rfl, hS, lv_sub (l' := [(3, .int r12), (0, .ref h), (1, .int mm), (2, .int at_)]) hl [0, 1, 2, 3] rfl⟩

def kwX11_hang : List Cond := .code yX11_hang cX11_hang 7 (some .int) :: kG
theorem hdX11_hang : yX11_hang.cls ≠ "java/lang/invoke/MethodHandle" ∧ yX11_hang.cls ≠ "java/lang/invoke/VarHandle" ∧ (parseMethodDescriptor yX11_hang.desc).map (fun d => d.parameters.length) = some 0 := by decide +kernel
theorem gX11_hang_X11_has : GoodIn kG (va_wsS RX11 310 yX11_has kwX11_has) := gK w37_11 (gK w37_12 (gK w0_5 (gK w37_13 gGG)))
theorem gX11_hang_X11_noShirt : GoodIn kG (wsV RX11 283 RX11 yX11_noShirt kwX11_noShirt) := gK w28_12 (gK w28_13 (gK w28_14 (gK w0_5 (gK w28_15 gGG))))
theorem gX11_hang_X11_of : GoodIn kG (wsV RX11 156 RX11 yX11_of kwX11_of) := gK w21_9 (gK w21_10 (gK w21_11 (gK w0_5 (gK w21_12 gGG))))
theorem gX11_hang_X11_remembers : GoodIn kG (wsV RX11 298 RX11 yX11_remembers kwX11_remembers) := gK w34_0 (gK w34_1 (gK w34_2 (gK w0_5 (gK w34_3 gGG))))
theorem gX11_hang_X11_runsFrom : GoodIn kG (wsV RX11 313 RX11 yX11_runsFrom kwX11_runsFrom) := gK w37_14 (gK w37_15 (gK w37_16 (gK w0_5 (gK w37_17 gGG))))
theorem gX11_hang_X11_throwsIf : GoodIn kG (wsV RX11 258 RX11 yX11_throwsIf kwX11_throwsIf) := gK w23_6 (gK w23_7 (gK w23_8 (gK w0_5 (gK w23_9 gGG))))
theorem gX11_hang_X11_uses : GoodIn kG (wsV RX11 247 RX11 yX11_uses kwX11_uses) := gK w18_7 (gK w18_8 (gK w18_9 (gK w0_5 (gK w18_10 gGG))))
theorem dX11_hang_0 : decode cX11_hang 0 = .ok (.aload_n 0, 1) := by decide +kernel
theorem dX11_hang_1 : decode cX11_hang 1 = .ok (.invokevirtual 247, 3) := by decide +kernel
theorem dX11_hang_4 : decode cX11_hang 4 = .ok (.iconst 0, 1) := by decide +kernel
theorem dX11_hang_5 : decode cX11_hang 5 = .ok (.istore_n 1, 1) := by decide +kernel
theorem dX11_hang_6 : decode cX11_hang 6 = .ok (.iconst 1, 1) := by decide +kernel
theorem dX11_hang_7 : decode cX11_hang 7 = .ok (.istore_n 2, 1) := by decide +kernel
theorem dX11_hang_8 : decode cX11_hang 8 = .ok (.iconst 0, 1) := by decide +kernel
theorem dX11_hang_9 : decode cX11_hang 9 = .ok (.istore_n 3, 1) := by decide +kernel
theorem dX11_hang_10 : decode cX11_hang 10 = .ok (.iconst 0, 1) := by decide +kernel
theorem dX11_hang_11 : decode cX11_hang 11 = .ok (.istore 4, 2) := by decide +kernel
theorem dX11_hang_13 : decode cX11_hang 13 = .ok (.iload 4, 2) := by decide +kernel
theorem dX11_hang_15 : decode cX11_hang 15 = .ok (.aload_n 0, 1) := by decide +kernel
theorem dX11_hang_16 : decode cX11_hang 16 = .ok (.getfield 89, 3) := by decide +kernel
theorem dX11_hang_19 : decode cX11_hang 19 = .ok (.if_icmp .ge 88, 3) := by decide +kernel
theorem dX11_hang_22 : decode cX11_hang 22 = .ok (.iload_n 2, 1) := by decide +kernel
theorem dX11_hang_23 : decode cX11_hang 23 = .ok (.ifCond .eq 84, 3) := by decide +kernel
theorem dX11_hang_26 : decode cX11_hang 26 = .ok (.aload_n 0, 1) := by decide +kernel
theorem dX11_hang_27 : decode cX11_hang 27 = .ok (.getfield 26, 3) := by decide +kernel
theorem dX11_hang_30 : decode cX11_hang 30 = .ok (.iload 4, 2) := by decide +kernel
theorem dX11_hang_32 : decode cX11_hang 32 = .ok (.baload, 1) := by decide +kernel
theorem dX11_hang_33 : decode cX11_hang 33 = .ok (.bipush 97, 2) := by decide +kernel
theorem dX11_hang_35 : decode cX11_hang 35 = .ok (.isub, 1) := by decide +kernel
theorem dX11_hang_36 : decode cX11_hang 36 = .ok (.istore 5, 2) := by decide +kernel
theorem dX11_hang_38 : decode cX11_hang 38 = .ok (.aload_n 0, 1) := by decide +kernel
theorem dX11_hang_39 : decode cX11_hang 39 = .ok (.iload 5, 2) := by decide +kernel
theorem dX11_hang_41 : decode cX11_hang 41 = .ok (.invokevirtual 283, 3) := by decide +kernel
theorem dX11_hang_44 : decode cX11_hang 44 = .ok (.ifCond .ne 16, 3) := by decide +kernel
theorem dX11_hang_47 : decode cX11_hang 47 = .ok (.iload_n 1, 1) := by decide +kernel
theorem dX11_hang_48 : decode cX11_hang 48 = .ok (.iload 5, 2) := by decide +kernel
theorem dX11_hang_50 : decode cX11_hang 50 = .ok (.invokestatic 310, 3) := by decide +kernel
theorem dX11_hang_53 : decode cX11_hang 53 = .ok (.ifCond .ne 7, 3) := by decide +kernel
theorem dX11_hang_56 : decode cX11_hang 56 = .ok (.iconst 1, 1) := by decide +kernel
theorem dX11_hang_57 : decode cX11_hang 57 = .ok (.goto 4, 3) := by decide +kernel
theorem dX11_hang_60 : decode cX11_hang 60 = .ok (.iconst 0, 1) := by decide +kernel
theorem dX11_hang_61 : decode cX11_hang 61 = .ok (.istore_n 2, 1) := by decide +kernel
theorem dX11_hang_62 : decode cX11_hang 62 = .ok (.iload_n 1, 1) := by decide +kernel
theorem dX11_hang_63 : decode cX11_hang 63 = .ok (.iload_n 2, 1) := by decide +kernel
theorem dX11_hang_64 : decode cX11_hang 64 = .ok (.ifCond .eq 10, 3) := by decide +kernel
theorem dX11_hang_67 : decode cX11_hang 67 = .ok (.iconst 1, 1) := by decide +kernel
theorem dX11_hang_68 : decode cX11_hang 68 = .ok (.iload 5, 2) := by decide +kernel
theorem dX11_hang_70 : decode cX11_hang 70 = .ok (.ishl, 1) := by decide +kernel
theorem dX11_hang_71 : decode cX11_hang 71 = .ok (.goto 4, 3) := by decide +kernel
theorem dX11_hang_74 : decode cX11_hang 74 = .ok (.iconst 0, 1) := by decide +kernel
theorem dX11_hang_75 : decode cX11_hang 75 = .ok (.ior, 1) := by decide +kernel
theorem dX11_hang_76 : decode cX11_hang 76 = .ok (.istore_n 1, 1) := by decide +kernel
theorem dX11_hang_77 : decode cX11_hang 77 = .ok (.iload_n 3, 1) := by decide +kernel
theorem dX11_hang_78 : decode cX11_hang 78 = .ok (.ifCond .ne 17, 3) := by decide +kernel
theorem dX11_hang_81 : decode cX11_hang 81 = .ok (.iload_n 2, 1) := by decide +kernel
theorem dX11_hang_82 : decode cX11_hang 82 = .ok (.ifCond .eq 17, 3) := by decide +kernel
theorem dX11_hang_85 : decode cX11_hang 85 = .ok (.aload_n 0, 1) := by decide +kernel
theorem dX11_hang_86 : decode cX11_hang 86 = .ok (.iload 5, 2) := by decide +kernel
theorem dX11_hang_88 : decode cX11_hang 88 = .ok (.iconst 5, 1) := by decide +kernel
theorem dX11_hang_89 : decode cX11_hang 89 = .ok (.invokevirtual 156, 3) := by decide +kernel
theorem dX11_hang_92 : decode cX11_hang 92 = .ok (.ifCond .lt 7, 3) := by decide +kernel
theorem dX11_hang_95 : decode cX11_hang 95 = .ok (.iconst 1, 1) := by decide +kernel
theorem dX11_hang_96 : decode cX11_hang 96 = .ok (.goto 4, 3) := by decide +kernel
theorem dX11_hang_99 : decode cX11_hang 99 = .ok (.iconst 0, 1) := by decide +kernel
theorem dX11_hang_100 : decode cX11_hang 100 = .ok (.istore_n 3, 1) := by decide +kernel
theorem dX11_hang_101 : decode cX11_hang 101 = .ok (.iinc 4 1, 3) := by decide +kernel
theorem dX11_hang_104 : decode cX11_hang 104 = .ok (.goto (-91), 3) := by decide +kernel
theorem dX11_hang_107 : decode cX11_hang 107 = .ok (.aload_n 0, 1) := by decide +kernel
theorem dX11_hang_108 : decode cX11_hang 108 = .ok (.iload_n 2, 1) := by decide +kernel
theorem dX11_hang_109 : decode cX11_hang 109 = .ok (.ifCond .ne 7, 3) := by decide +kernel
theorem dX11_hang_112 : decode cX11_hang 112 = .ok (.iconst 1, 1) := by decide +kernel
theorem dX11_hang_113 : decode cX11_hang 113 = .ok (.goto 4, 3) := by decide +kernel
theorem dX11_hang_116 : decode cX11_hang 116 = .ok (.iconst 0, 1) := by decide +kernel
theorem dX11_hang_117 : decode cX11_hang 117 = .ok (.iconst 1, 1) := by decide +kernel
theorem dX11_hang_118 : decode cX11_hang 118 = .ok (.invokevirtual 258, 3) := by decide +kernel
theorem dX11_hang_121 : decode cX11_hang 121 = .ok (.ifCond .ne 12, 3) := by decide +kernel
theorem dX11_hang_124 : decode cX11_hang 124 = .ok (.aload_n 0, 1) := by decide +kernel
theorem dX11_hang_125 : decode cX11_hang 125 = .ok (.iload_n 3, 1) := by decide +kernel
theorem dX11_hang_126 : decode cX11_hang 126 = .ok (.iconst 2, 1) := by decide +kernel
theorem dX11_hang_127 : decode cX11_hang 127 = .ok (.invokevirtual 258, 3) := by decide +kernel
theorem dX11_hang_130 : decode cX11_hang 130 = .ok (.ifCond .eq 5, 3) := by decide +kernel
theorem dX11_hang_133 : decode cX11_hang 133 = .ok (.iconst 0, 1) := by decide +kernel
theorem dX11_hang_134 : decode cX11_hang 134 = .ok (.ireturn, 1) := by decide +kernel
theorem dX11_hang_135 : decode cX11_hang 135 = .ok (.aload_n 0, 1) := by decide +kernel
theorem dX11_hang_136 : decode cX11_hang 136 = .ok (.invokevirtual 298, 3) := by decide +kernel
theorem dX11_hang_139 : decode cX11_hang 139 = .ok (.iconst 0, 1) := by decide +kernel
theorem dX11_hang_140 : decode cX11_hang 140 = .ok (.istore 4, 2) := by decide +kernel
theorem dX11_hang_142 : decode cX11_hang 142 = .ok (.iconst 0, 1) := by decide +kernel
theorem dX11_hang_143 : decode cX11_hang 143 = .ok (.istore 5, 2) := by decide +kernel
theorem dX11_hang_145 : decode cX11_hang 145 = .ok (.iload 5, 2) := by decide +kernel
theorem dX11_hang_147 : decode cX11_hang 147 = .ok (.aload_n 0, 1) := by decide +kernel
theorem dX11_hang_148 : decode cX11_hang 148 = .ok (.getfield 89, 3) := by decide +kernel
theorem dX11_hang_151 : decode cX11_hang 151 = .ok (.if_icmp .ge 60, 3) := by decide +kernel
theorem dX11_hang_154 : decode cX11_hang 154 = .ok (.aload_n 0, 1) := by decide +kernel
theorem dX11_hang_155 : decode cX11_hang 155 = .ok (.getfield 26, 3) := by decide +kernel
theorem dX11_hang_158 : decode cX11_hang 158 = .ok (.iload 5, 2) := by decide +kernel
theorem dX11_hang_160 : decode cX11_hang 160 = .ok (.baload, 1) := by decide +kernel
theorem dX11_hang_161 : decode cX11_hang 161 = .ok (.bipush 97, 2) := by decide +kernel
theorem dX11_hang_163 : decode cX11_hang 163 = .ok (.isub, 1) := by decide +kernel
theorem dX11_hang_164 : decode cX11_hang 164 = .ok (.istore 6, 2) := by decide +kernel
theorem dX11_hang_166 : decode cX11_hang 166 = .ok (.aload_n 0, 1) := by decide +kernel
theorem dX11_hang_167 : decode cX11_hang 167 = .ok (.iload 6, 2) := by decide +kernel
theorem dX11_hang_169 : decode cX11_hang 169 = .ok (.iconst 0, 1) := by decide +kernel
theorem dX11_hang_170 : decode cX11_hang 170 = .ok (.invokevirtual 156, 3) := by decide +kernel
theorem dX11_hang_173 : decode cX11_hang 173 = .ok (.ifCond .ne 32, 3) := by decide +kernel
theorem dX11_hang_176 : decode cX11_hang 176 = .ok (.aload_n 0, 1) := by decide +kernel
theorem dX11_hang_177 : decode cX11_hang 177 = .ok (.iload 6, 2) := by decide +kernel
theorem dX11_hang_179 : decode cX11_hang 179 = .ok (.iload 5, 2) := by decide +kernel
theorem dX11_hang_181 : decode cX11_hang 181 = .ok (.iconst 1, 1) := by decide +kernel
theorem dX11_hang_182 : decode cX11_hang 182 = .ok (.isub, 1) := by decide +kernel
theorem dX11_hang_183 : decode cX11_hang 183 = .ok (.invokevirtual 313, 3) := by decide +kernel
theorem dX11_hang_186 : decode cX11_hang 186 = .ok (.ifCond .ne 16, 3) := by decide +kernel
theorem dX11_hang_189 : decode cX11_hang 189 = .ok (.aload_n 0, 1) := by decide +kernel
theorem dX11_hang_190 : decode cX11_hang 190 = .ok (.iload 6, 2) := by decide +kernel
theorem dX11_hang_192 : decode cX11_hang 192 = .ok (.iload 5, 2) := by decide +kernel
theorem dX11_hang_194 : decode cX11_hang 194 = .ok (.iconst 1, 1) := by decide +kernel
theorem dX11_hang_195 : decode cX11_hang 195 = .ok (.iadd, 1) := by decide +kernel
theorem dX11_hang_196 : decode cX11_hang 196 = .ok (.invokevirtual 313, 3) := by decide +kernel
theorem dX11_hang_199 : decode cX11_hang 199 = .ok (.ifCond .eq 6, 3) := by decide +kernel
theorem dX11_hang_202 : decode cX11_hang 202 = .ok (.iinc 4 1, 3) := by decide +kernel
theorem dX11_hang_205 : decode cX11_hang 205 = .ok (.iinc 5 1, 3) := by decide +kernel
theorem dX11_hang_208 : decode cX11_hang 208 = .ok (.goto (-63), 3) := by decide +kernel
theorem dX11_hang_211 : decode cX11_hang 211 = .ok (.iload 4, 2) := by decide +kernel
theorem dX11_hang_213 : decode cX11_hang 213 = .ok (.ireturn, 1) := by decide +kernel
set_option maxHeartbeats 4000000 in
set_option maxRecDepth 100000 in
/-- reference: hang -/
theorem r_hang (l : Launch) (D : va_G) (cI cJ cB cC : ClassId) (h : Nat) (th : Int32) (aw : Nat) (ai : Nat) (ab : Nat) (ac : Nat) (hi : Int32) (re : Int32) (aP : Nat) (ta : Int32) (po : Int32) (en : Int32) (be : Int32) (de : Int32) (fa : Int32) (a5 : Nat) (sp : Int32) (av : Nat) (an : Nat) (ak : Nat) (ne : Int32) (aW : Nat) (aC : Nat) (ag : Nat) (aT : Nat) (aN : Nat) (aF : Nat) (fw : Nat → Int32) (ft : Nat → Int32) (fc : Nat → Int32) (sz : Nat) (H_ta : Rg ta 0 400) (H_re : Rg re 0 12) (H_fw_W : wW fw) (H_fw_B : wB fw) (H_fw_L : wL fw) (H_fc_C : wC fc) : Met l yX11_hang kwX11_hang ({ frames := 2, cells := 0, slots := 0, locals := 46 } : Room) (kPre D (kT cI cJ cB cC) sz [(h, oX11 th aw ai ab ac hi re aP ta po en be de fa a5 sp av an ak ne aW aC ag aT aN aF), (aw, kcI cI 2179 fw), (aP, .inl (cB, 400, .inl ft)), (ac, kcI cI 6060 fc)] [.ref h]) (va_Qi (fun (r : Int32) (uu : Int32 × Int32 × Int32 × (Nat → Int32) × (Nat → Int32)) => match uu with | (n0_, n1_, n2_, f3_, f4_) => Rg n1_ 0 12 ∧ Rg n2_ 0 400 ∧ wB f3_ ∧ wL f3_ ∧ wW f3_ ∧ wC f4_ ∧ F_r_hang (re : Int32).toInt (ta : Int32).toInt (gT fw) (gT ft) (gT fc) = ((r : Int32).toInt, (n0_ : Int32).toInt, (n1_ : Int32).toInt, (n2_ : Int32).toInt, (gT f3_), (gT f4_))) (fun (uu : Int32 × Int32 × Int32 × (Nat → Int32) × (Nat → Int32)) (t : State) => match uu with | (n0_, n1_, n2_, f3_, f4_) => kB D (kT cI cJ cB cC) (va_A [(h, oX11 th aw ai ab ac hi re aP ta po en be de fa a5 sp av an ak ne aW aC ag aT aN aF), (aw, kcI cI 2179 fw), (aP, .inl (cB, 400, .inl ft)), (ac, kcI cI 6060 fc)] sz) [(h, oX11 n0_ aw ai ab ac hi n1_ aP 0 0 n2_ be de fa a5 sp av an ak ne aW aC ag aT aN aF), (aw, kcI cI 2179 f3_), (aP, .inl (cB, 400, .inl ft)), (ac, kcI cI 6060 f4_)] t) (va_A [(h, oX11 th aw ai ab ac hi re aP ta po en be de fa a5 sp av an ak ne aW aC ag aT aN aF), (aw, kcI cI 2179 fw), (aP, .inl (cB, 400, .inl ft)), (ac, kcI cI 6060 fc)] sz)) 0 0 (va_A [(h, oX11 th aw ai ab ac hi re aP ta po en be de fa a5 sp av an ak ne aW aC ag aT aN aF), (aw, kcI cI 2179 fw), (aP, .inl (cB, 400, .inl ft)), (ac, kcI cI 6060 fc)] sz) := by
  refine Met.ofW (cc := cX11_hang) (maxL := 7) (ret := (some .int)) (by decide) rfl ?_
  intro p e s m args below meth c s₁ B hml hv
  obtain ⟨rfl, hsz, hN, hE, hP, hK, hD0⟩ := hv
  have hx := B.exec
  have hb := B.bytes
  have hr := B.returns
  have hts := fun (w : Cond) (h : w ∈ kG) => atoms_spec (ws := kwX11_hang) B.pre w (List.mem_cons_of_mem _ h)
  have hown : s.vm.findClass RX11 = some m.cls := findClass_of_methodNamed B.named
  subst hsz
  have hD := hD0.self (sz := s.heap.size)
  generalize hAe : va_A [(h, oX11 th aw ai ab ac hi re aP ta po en be de fa a5 sp av an ak ne aW aC ag aT aN aF), (aw, kcI cI 2179 fw), (aP, .inl (cB, 400, .inl ft)), (ac, kcI cI 6060 fc)] s.heap.size = A at hD hE ⊢
  have hA : ∀ q : Nat, s.heap.size ≤ q → A q := fun q h => by rw [← hAe]; exact Or.inr h
  have hl := lv_entry ([.ref h]) (n := 7) (Nat.le_of_ble_eq_true rfl)
  rw [lg_entry_eq]
  generalize (lg_sl ([.ref h]) ++ List.replicate (7 - (lg_sl ([.ref h])).length) Slot.unset).toArray = ls at hl ⊢
  have hl : lv_has ls 7 [(0, .ref h)] := hl
  obtain ⟨H, hH0⟩ : ∃ H, H = s.heap := ⟨_, rfl⟩
  have hS : va_S A s.heap H [] := by rw [hH0]; exact va_S.rf
  have hP : va_P D vwCl [(h, oX11 th aw ai ab ac hi re aP ta po en be de fa a5 sp av an ak ne aW aC ag aT aN aF), (aw, kcI cI 2179 fw), (aP, .inl (cB, 400, .inl ft)), (ac, kcI cI 6060 fc)] H := by rw [hH0]; exact hP
  refine kHeap hH0 ?_
  clear hH0
  refine lv_aload_n hx hb dX11_hang_0 rfl (lv_at hl 0 rfl) ?_
  refine kcallv (wc := [(h, oX11 th aw ai ab ac hi re aP ta po en be de fa a5 sp av an ak ne aW aC ag aT aN aF)]) (wr := [(aw, kcI cI 2179 fw), (aP, .inl (cB, 400, .inl ft)), (ac, kcI cI 6060 fc)]) hP hD hS hA [0] [1, 2, 3] rfl rfl (by decide) (by decide) (by decide) (fun hPc hDc hFc => va_runV (As := []) (rest := []) ⟨hx, hb, hml, hown, hts⟩ (r_uses l D cI cJ cB cC h th aw ai ab ac hi re aP ta po en be de fa a5 sp av an ak ne aW aC ag aT aN aF H.size H_ta) (cwV 0 hts gX11_hang_X11_uses rfl rfl rfl ⟨rfl, hdX11_uses⟩ ⟨Nat.le_of_ble_eq_true rfl, Nat.le_of_ble_eq_true rfl⟩) ⟨kBlind, va_recv hK hPc (ci := 10) (q0 := 0) rfl rfl, fun U hU hW => ⟨rfl, by rw [hU], hN.warm hW, hE.pass hS hFc hW hU, by rw [hU]; exact hPc, va_K.moved hW.alike hK, hDc⟩⟩ rfl rfl hl.1 rfl (lv_room (Nat.le_of_ble_eq_true rfl)) dX11_hang_1 ⟨Nat.le_of_ble_eq_true rfl, Nat.le_of_ble_eq_true rfl⟩) (fun u H locs hw hP hD hS => ?_)
  have hP : va_P D vwCl [(aw, kcI cI 2179 fw), (aP, .inl (cB, 400, .inl ft)), (ac, kcI cI 6060 fc), (h, oX11 0 aw ai ab ac hi re aP 0 0 ta be de fa a5 sp av an ak ne aW aC ag aT aN aF)] H := hP
  have hD : va_D A [(aw, kcI cI 2179 fw), (aP, .inl (cB, 400, .inl ft)), (ac, kcI cI 6060 fc), (h, oX11 0 aw ai ab ac hi re aP 0 0 ta be de fa a5 sp av an ak ne aW aC ag aT aN aF)] := hD
  refine lv_iconst (v := 0) hx hb dX11_hang_4 (by decide) ?_
  refine lv_istore_n (lv' := [(1, .int 0), (0, .ref h)]) hx hb dX11_hang_5 rfl hl (by decide) rfl (fun ls hl => ?_)
  refine lv_iconst (v := 1) hx hb dX11_hang_6 (by decide) ?_
  refine lv_istore_n (lv' := [(2, .int 1), (1, .int 0), (0, .ref h)]) hx hb dX11_hang_7 rfl hl (by decide) rfl (fun ls hl => ?_)
  refine lv_iconst (v := 0) hx hb dX11_hang_8 (by decide) ?_
  refine lv_istore_n (lv' := [(3, .int 0), (2, .int 1), (1, .int 0), (0, .ref h)]) hx hb dX11_hang_9 rfl hl (by decide) rfl (fun ls hl => ?_)
  refine lv_iconst (v := 0) hx hb dX11_hang_10 (by decide) ?_
  refine lv_istore (lv' := [(4, .int 0), (3, .int 0), (2, .int 1), (1, .int 0), (0, .ref h)]) hx hb dX11_hang_11 hl (by decide) rfl (fun ls hl => ?_)
  refine k_loop (hd := 13) (fun (u : Int32 × Int32 × Int32 × Int32) => match u with | (y1013, y1014, y1015, y1016) => (400 - (y1013).toInt).toNat) (fun (u : Int32 × Int32 × Int32 × Int32) (H : Heap) (locs : List Loc) (ls : Array Slot) => match u with | (y1013, y1014, y1015, y1016) => ((y1015 : Int32).toInt = 0 ∨ ∀ j : Nat, (j : Int) < (y1013 : Int32).toInt → Rg (ft j) 97 108) ∧ (F_r_hang re.toInt ta.toInt (gT fw) (gT ft) (gT fc) = F_r_hang_l1 re.toInt ta.toInt (gT fw) (gT ft) (gT fc) (y1013.toInt, y1014.toInt, y1015.toInt, y1016.toInt)) ∧ Rg y1013 0 400 ∧ Rg y1014 0 1 ∧ Rg y1015 0 1 ∧ Rg y1016 0 4095 ∧ va_P D vwCl [(aw, kcI cI 2179 fw), (aP, .inl (cB, 400, .inl ft)), (ac, kcI cI 6060 fc), (h, oX11 0 aw ai ab ac hi re aP 0 0 ta be de fa a5 sp av an ak ne aW aC ag aT aN aF)] H ∧ va_D A [(aw, kcI cI 2179 fw), (aP, .inl (cB, 400, .inl ft)), (ac, kcI cI 6060 fc), (h, oX11 0 aw ai ab ac hi re aP 0 0 ta be de fa a5 sp av an ak ne aW aC ag aT aN aF)] ∧ va_S A s.heap H locs ∧ lv_has ls 7 [(4, .int y1013), (3, .int y1014), (2, .int y1015), (1, .int y1016), (0, .ref h)]) ((0 : Int32), (0 : Int32), (1 : Int32), (0 : Int32)) ⟨(Or.inr (fun j hj => by have q1 : (0 : Int32).toInt = 0 := (by decide); omega)), rfl, (rg_w (rg_lit (n := 0) (by decide)) (by decide)), (rg_w (rg_lit (n := 0) (by decide)) (by decide)), (rg_w (rg_lit (n := 1) (by decide)) (by decide)), (rg_w (rg_lit (n := 0) (by decide)) (by decide)), hP.sub (ws' := [(aw, kcI cI 2179 fw), (aP, .inl (cB, 400, .inl ft)), (ac, kcI cI 6060 fc), (h, oX11 0 aw ai ab ac hi re aP 0 0 ta be de fa a5 sp av an ak ne aW aC ag aT aN aF)]) [0, 1, 2, 3] rfl, hD.sub (ws' := [(aw, kcI cI 2179 fw), (aP, .inl (cB, 400, .inl ft)), (ac, kcI cI 6060 fc), (h, oX11 0 aw ai ab ac hi re aP 0 0 ta be de fa a5 sp av an ak ne aW aC ag aT aN aF)]) [0, 1, 2, 3] (by decide) rfl, hS, lv_sub (l' := [(4, .int 0), (3, .int 0), (2, .int 1), (1, .int 0), (0, .ref h)]) hl [0, 1, 2, 3, 4] rfl⟩ (fun u H locs ls hI ih1017 => ?_)
  clear hP hD hS hl
  obtain ⟨y1013, y1014, y1015, y1016⟩ := u
  obtain ⟨hX13_0, hF1, hy1013, hy1014, hy1015, hy1016, hP, hD, hS, hl⟩ := hI
  have hP : va_P D vwCl [(aw, kcI cI 2179 fw), (aP, .inl (cB, 400, .inl ft)), (ac, kcI cI 6060 fc), (h, oX11 0 aw ai ab ac hi re aP 0 0 ta be de fa a5 sp av an ak ne aW aC ag aT aN aF)] H := hP
  have hD : va_D A [(aw, kcI cI 2179 fw), (aP, .inl (cB, 400, .inl ft)), (ac, kcI cI 6060 fc), (h, oX11 0 aw ai ab ac hi re aP 0 0 ta be de fa a5 sp av an ak ne aW aC ag aT aN aF)] := hD
  have hl : lv_has ls 7 [(4, .int y1013), (3, .int y1014), (2, .int y1015), (1, .int y1016), (0, .ref h)] := hl
  refine lv_iload hx hb dX11_hang_13 (lv_at hl 0 rfl) ?_
  refine lv_aload_n hx hb dX11_hang_15 rfl (lv_at hl 4 rfl) ?_
  refine va_get (D := D) (ci := 10) (v := .int ta) (C := RX11) (T := TX11) (N := 26) hx hb hts iG_X11 hown hK hP 3 rfl rfl 10 (by decide) (hts _ w18_6) (fun _ h9 => h9) rfl dX11_hang_16 ?_
  refine lv_icmp_ge (tgt := 107) hx hb dX11_hang_19 (by decide) (fun c1079 => ?_) (fun c1079 => ?_)
  · skip
    refine lv_aload_n hx hb dX11_hang_107 rfl (lv_at hl 4 rfl) ?_
    refine lv_iload_n hx hb dX11_hang_108 rfl (lv_at hl 2 rfl) ?_
    refine lv_if_ne (tgt := 116) hx hb dX11_hang_109 (by decide) (fun c1083 => ?_) (fun c1083 => ?_)
    · skip
      have k1084 : Rg y1015 1 1 := rg_n1 (neI c1083) hy1015 (rg_lit (n := 0) (by decide)) (by decide)
      refine lv_iconst (v := 0) hx hb dX11_hang_116 (by decide) ?_
      refine lv_iconst (v := 1) hx hb dX11_hang_117 (by decide) ?_
      refine kpurei (wc := [(h, oX11 0 aw ai ab ac hi re aP 0 0 ta be de fa a5 sp av an ak ne aW aC ag aT aN aF)]) hP hD hS hA [3] rfl (by decide) (fun hPc hDc hFc => va_runV (As := [.int 0, .int 1]) (rest := []) ⟨hx, hb, hml, hown, hts⟩ (r_throwsIf0_1 l D cI cJ cB cC h 0 aw ai ab ac hi re aP 0 0 ta be de fa a5 sp av an ak ne aW aC ag aT aN aF 1 H.size) (cwV 2 hts gX11_hang_X11_throwsIf rfl rfl rfl ⟨rfl, hdX11_throwsIf⟩ ⟨Nat.le_of_ble_eq_true rfl, Nat.le_of_ble_eq_true rfl⟩) ⟨kBlind, va_recv hK hPc (ci := 10) (q0 := 0) rfl rfl, fun U hU hW => ⟨rfl, by rw [hU], hN.warm hW, hE.pass hS hFc hW hU, by rw [hU]; exact hPc, va_K.moved hW.alike hK, hDc⟩⟩ rfl rfl hl.1 rfl (lv_room (Nat.le_of_ble_eq_true rfl)) dX11_hang_118 ⟨Nat.le_of_ble_eq_true rfl, Nat.le_of_ble_eq_true rfl⟩) (fun r1085 u H locs hw hP hS => ?_)
      obtain ⟨k1086, k1087⟩ := hw
      refine lv_if_ne (tgt := 133) hx hb dX11_hang_121 (by decide) (fun c1861 => absurd (rg_eq k1086 (rg_lit (n := 0) (by decide)) (by decide)) c1861) (fun _ => ?_)
      refine lv_aload_n hx hb dX11_hang_124 rfl (lv_at hl 4 rfl) ?_
      refine lv_iload_n hx hb dX11_hang_125 rfl (lv_at hl 1 rfl) ?_
      refine lv_iconst (v := 2) hx hb dX11_hang_126 (by decide) ?_
      refine kcalli (wc := [(h, oX11 0 aw ai ab ac hi re aP 0 0 ta be de fa a5 sp av an ak ne aW aC ag aT aN aF)]) (wr := [(aw, kcI cI 2179 fw), (aP, .inl (cB, 400, .inl ft)), (ac, kcI cI 6060 fc)]) hP hD hS hA [3] [0, 1, 2] rfl rfl (by decide) (by decide) (by decide) (fun hPc hDc hFc => va_runV (As := [.int y1014, .int 2]) (rest := []) ⟨hx, hb, hml, hown, hts⟩ (r_throwsIfv l D cI cJ cB cC h 0 aw ai ab ac hi re aP 0 0 ta be de fa a5 sp av an ak ne aW aC ag aT aN aF y1014 2 H.size hy1014) (cwV 2 hts gX11_hang_X11_throwsIf rfl rfl rfl ⟨rfl, hdX11_throwsIf⟩ ⟨Nat.le_of_ble_eq_true rfl, Nat.le_of_ble_eq_true rfl⟩) ⟨kBlind, va_recv hK hPc (ci := 10) (q0 := 0) rfl rfl, fun U hU hW => ⟨rfl, by rw [hU], hN.warm hW, hE.pass hS hFc hW hU, by rw [hU]; exact hPc, va_K.moved hW.alike hK, hDc⟩⟩ rfl rfl hl.1 rfl (lv_room (Nat.le_of_ble_eq_true rfl)) dX11_hang_127 ⟨Nat.le_of_ble_eq_true rfl, Nat.le_of_ble_eq_true rfl⟩) (fun r1862 u H locs hw hP hD hS => ?_)
      obtain ⟨x1863, rfl⟩ : ∃ z, z = u := ⟨_, rfl⟩
      have hP : va_P D vwCl [(aw, kcI cI 2179 fw), (aP, .inl (cB, 400, .inl ft)), (ac, kcI cI 6060 fc), (h, oX11 x1863 aw ai ab ac hi re aP 0 0 ta be de fa a5 sp av an ak ne aW aC ag aT aN aF)] H := hP
      have hD : va_D A [(aw, kcI cI 2179 fw), (aP, .inl (cB, 400, .inl ft)), (ac, kcI cI 6060 fc), (h, oX11 x1863 aw ai ab ac hi re aP 0 0 ta be de fa a5 sp av an ak ne aW aC ag aT aN aF)] := hD
      obtain ⟨k1864, k1865⟩ := hw
      refine lv_if_eq (tgt := 135) hx hb dX11_hang_130 (by decide) (fun c1866 => ?_) (fun c1866 => ?_)
      · skip
        have k1867 : Rg r1862 0 0 := rg_q1 (eqI c1866) k1864 (rg_lit (n := 0) (by decide)) (by decide)
        refine lv_aload_n hx hb dX11_hang_135 rfl (lv_at hl 4 rfl) ?_
        have hHT : ∀ j : Nat, (j : Int) < (ta : Int32).toInt → Rg (ft j) 97 108 := fun j hj => ((hX13_0).resolve_left (by have q1 := neI c1083; have q2 : (0 : Int32).toInt = 0 := (by decide); omega)) j (by have q2 := (leI c1079); omega)
        refine kcallv (wc := [(h, oX11 x1863 aw ai ab ac hi re aP 0 0 ta be de fa a5 sp av an ak ne aW aC ag aT aN aF), (aw, kcI cI 2179 fw), (ac, kcI cI 6060 fc)]) (wr := [(aP, .inl (cB, 400, .inl ft))]) hP hD hS hA [3, 0, 2] [1] rfl rfl (by decide) (by decide) (by decide) (fun hPc hDc hFc => va_runV (As := []) (rest := []) ⟨hx, hb, hml, hown, hts⟩ (r_remembers l D cI cJ cB cC h x1863 aw ai ab ac hi re aP 0 0 ta be de fa a5 sp av an ak ne aW aC ag aT aN aF fw fc H.size H_re H_fw_W H_fw_B H_fw_L H_fc_C) (cwV 0 hts gX11_hang_X11_remembers rfl rfl rfl ⟨rfl, hdX11_remembers⟩ ⟨Nat.le_of_ble_eq_true rfl, Nat.le_of_ble_eq_true rfl⟩) ⟨kBlind, va_recv hK hPc (ci := 10) (q0 := 0) rfl rfl, fun U hU hW => ⟨rfl, by rw [hU], hN.warm hW, hE.pass hS hFc hW hU, by rw [hU]; exact hPc, va_K.moved hW.alike hK, hDc⟩⟩ rfl rfl hl.1 rfl (lv_room (Nat.le_of_ble_eq_true rfl)) dX11_hang_136 ⟨Nat.le_of_ble_eq_true rfl, Nat.le_of_ble_eq_true rfl⟩) (fun u H locs hw hP hD hS => ?_)
        obtain ⟨x1868, g1869⟩ := u
        have hP : va_P D vwCl [(aP, .inl (cB, 400, .inl ft)), (h, oX11 x1863 aw ai ab ac hi x1868 aP 0 0 ta be de fa a5 sp av an ak ne aW aC ag aT aN aF), (aw, kcI cI 2179 fw), (ac, kcI cI 6060 g1869)] H := hP
        have hD : va_D A [(aP, .inl (cB, 400, .inl ft)), (h, oX11 x1863 aw ai ab ac hi x1868 aP 0 0 ta be de fa a5 sp av an ak ne aW aC ag aT aN aF), (aw, kcI cI 2179 fw), (ac, kcI cI 6060 g1869)] := hD
        obtain ⟨k1870, k1871, k1872⟩ := hw
        refine lv_iconst (v := 0) hx hb dX11_hang_139 (by decide) ?_
        refine lv_istore (lv' := [(4, .int 0), (3, .int y1014), (2, .int y1015), (1, .int y1016), (0, .ref h)]) hx hb dX11_hang_140 hl (by decide) rfl (fun ls hl => ?_)
        refine lv_iconst (v := 0) hx hb dX11_hang_142 (by decide) ?_
        refine lv_istore (lv' := [(5, .int 0), (4, .int 0), (3, .int y1014), (2, .int y1015), (1, .int y1016), (0, .ref h)]) hx hb dX11_hang_143 hl (by decide) rfl (fun ls hl => ?_)
        refine k_loop (hd := 145) (fun (u : Int32 × Int32 × (Nat → Int32)) => match u with | (y2588, y2589, g2590) => (400 - (y2588).toInt).toNat) (fun (u : Int32 × Int32 × (Nat → Int32)) (H : Heap) (locs : List Loc) (ls : Array Slot) => match u with | (y2588, y2589, g2590) => (F_r_hang_l1_s re.toInt ta.toInt (gT fw) (gT ft) (gT fc) (y1013.toInt, y1014.toInt, y1015.toInt, y1016.toInt) = F_r_hang_l2 ta.toInt (gT ft) x1863.toInt x1868.toInt (gT g1869) (y2588.toInt, y2589.toInt, (gT g2590))) ∧ Rg y2588 0 400 ∧ wB g2590 ∧ wL g2590 ∧ wW g2590 ∧ va_P D vwCl [(aP, .inl (cB, 400, .inl ft)), (h, oX11 x1863 aw ai ab ac hi x1868 aP 0 0 ta be de fa a5 sp av an ak ne aW aC ag aT aN aF), (aw, kcI cI 2179 g2590), (ac, kcI cI 6060 g1869)] H ∧ va_D A [(aP, .inl (cB, 400, .inl ft)), (h, oX11 x1863 aw ai ab ac hi x1868 aP 0 0 ta be de fa a5 sp av an ak ne aW aC ag aT aN aF), (aw, kcI cI 2179 g2590), (ac, kcI cI 6060 g1869)] ∧ va_S A s.heap H locs ∧ lv_has ls 7 [(5, .int y2588), (4, .int y2589), (3, .int y1014), (2, .int y1015), (1, .int y1016), (0, .ref h)]) ((0 : Int32), (0 : Int32), fw) ⟨(kC_eq rfl (kC_eq rfl (kC_eq rfl (kif_t (leI c1079) (kif_f (neI c1083) (kLet_eq (k1087).symm (kC_eq k1865 (kif_t (eqI c1866) (kC_eq k1872 rfl))))))))), (rg_w (rg_lit (n := 0) (by decide)) (by decide)), H_fw_B, H_fw_L, H_fw_W, hP.sub (ws' := [(aP, .inl (cB, 400, .inl ft)), (h, oX11 x1863 aw ai ab ac hi x1868 aP 0 0 ta be de fa a5 sp av an ak ne aW aC ag aT aN aF), (aw, kcI cI 2179 fw), (ac, kcI cI 6060 g1869)]) [0, 1, 2, 3] rfl, hD.sub (ws' := [(aP, .inl (cB, 400, .inl ft)), (h, oX11 x1863 aw ai ab ac hi x1868 aP 0 0 ta be de fa a5 sp av an ak ne aW aC ag aT aN aF), (aw, kcI cI 2179 fw), (ac, kcI cI 6060 g1869)]) [0, 1, 2, 3] (by decide) rfl, hS, lv_sub (l' := [(5, .int 0), (4, .int 0), (3, .int y1014), (2, .int y1015), (1, .int y1016), (0, .ref h)]) hl [0, 1, 2, 3, 4, 5] rfl⟩ (fun u H locs ls hI ih2591 => ?_)
        clear hP hD hS hl
        obtain ⟨y2588, y2589, g2590⟩ := u
        obtain ⟨hF2, hy2588, hg2590_0, hg2590_1, hg2590_2, hP, hD, hS, hl⟩ := hI
        have hP : va_P D vwCl [(aP, .inl (cB, 400, .inl ft)), (h, oX11 x1863 aw ai ab ac hi x1868 aP 0 0 ta be de fa a5 sp av an ak ne aW aC ag aT aN aF), (aw, kcI cI 2179 g2590), (ac, kcI cI 6060 g1869)] H := hP
        have hD : va_D A [(aP, .inl (cB, 400, .inl ft)), (h, oX11 x1863 aw ai ab ac hi x1868 aP 0 0 ta be de fa a5 sp av an ak ne aW aC ag aT aN aF), (aw, kcI cI 2179 g2590), (ac, kcI cI 6060 g1869)] := hD
        have hl : lv_has ls 7 [(5, .int y2588), (4, .int y2589), (3, .int y1014), (2, .int y1015), (1, .int y1016), (0, .ref h)] := hl
        refine lv_iload hx hb dX11_hang_145 (lv_at hl 0 rfl) ?_
        refine lv_aload_n hx hb dX11_hang_147 rfl (lv_at hl 5 rfl) ?_
        refine va_get (D := D) (ci := 10) (v := .int ta) (C := RX11) (T := TX11) (N := 26) hx hb hts iG_X11 hown hK hP 1 rfl rfl 10 (by decide) (hts _ w18_6) (fun _ h9 => h9) rfl dX11_hang_148 ?_
        refine lv_icmp_ge (tgt := 211) hx hb dX11_hang_151 (by decide) (fun c2592 => ?_) (fun c2592 => ?_)
        · skip
          refine lv_iload hx hb dX11_hang_211 (lv_at hl 1 rfl) ?_
          have hP9 := hP.sub (ws' := [(h, oX11 x1863 aw ai ab ac hi x1868 aP 0 0 ta be de fa a5 sp av an ak ne aW aC ag aT aN aF), (aw, kcI cI 2179 g2590), (aP, .inl (cB, 400, .inl ft)), (ac, kcI cI 6060 g1869)]) [1, 2, 0, 3] rfl
          have hD9 := hD.sub (ws' := [(h, oX11 x1863 aw ai ab ac hi x1868 aP 0 0 ta be de fa a5 sp av an ak ne aW aC ag aT aN aF), (aw, kcI cI 2179 g2590), (aP, .inl (cB, 400, .inl ft)), (ac, kcI cI 6060 g1869)]) [1, 2, 0, 3] (by decide) rfl
          exact W.iret (v := y2589) hx hb hr (fun t ht hW => ⟨⟨y2589, (x1863, x1868, ta, g2590, g1869), rfl, ⟨(rg_w k1870 (by decide)), H_ta, hg2590_0, hg2590_1, hg2590_2, k1871, (hF1.trans (kIter_out (hF2.trans (kIter_out (kC_eq rfl (kC_eq rfl (kif_t (leI c2592) rfl)))))))⟩, by rw [ht]; exact hP9, va_K.moved hW.alike hK, hD9⟩, hS.F ht⟩) hS.2.2 dX11_hang_213
        · skip
          have k2593 : Rg y2588 0 399 := rg_l1 (nleI c2592) hy2588 H_ta (by decide)
          have k2594 : Rg ta 1 400 := rg_l2 (nleI c2592) hy2588 H_ta (by decide)
          refine lv_aload_n hx hb dX11_hang_154 rfl (lv_at hl 5 rfl) ?_
          refine va_get (D := D) (ci := 10) (v := .ref aP) (C := RX11) (T := TX11) (N := 26) hx hb hts iG_X11 hown hK hP 1 rfl rfl 7 (by decide) (hts _ w5_8) (fun _ h9 => h9) rfl dX11_hang_155 ?_
          refine lv_iload hx hb dX11_hang_158 (lv_at hl 0 rfl) ?_
          refine va_bald hx hb hK hP 0 2 rfl rfl (rg_in k2593 (by decide)) dX11_hang_160 ?_
          refine lv_topi (fun x2595 ex2595 => ?_)
          have k2596 : Rg x2595 97 108 := (by rw [ex2595, cl_of (k := cN y2588) k2593 (by decide) (by simp only [cN]; have q1 := k2593; unfold Rg at q1; omega)]; exact hHT (cN y2588) (by simp only [cN]; have q1 := k2593; have q2 := (nleI c2592); unfold Rg at *; omega))
          refine lv_bipush (v := 97) hx hb dX11_hang_161 (by decide) ?_
          refine lv_isub hx hb dX11_hang_163 ?_
          refine lv_topi (fun x2597 ex2597 => ?_)
          have tx2597 : x2597.toInt = x2595.toInt - 97 := ti_sub ex2597 k2596 (rg_lit (n := 97) (by decide)) (by decide) rfl (by decide)
          have k2598 : Rg x2597 0 11 := rg_sub ex2597 k2596 (rg_lit (n := 97) (by decide)) (by decide)
          refine lv_istore (lv' := [(6, .int x2597), (5, .int y2588), (4, .int y2589), (3, .int y1014), (2, .int y1015), (1, .int y1016), (0, .ref h)]) hx hb dX11_hang_164 hl (by decide) rfl (fun ls hl => ?_)
          refine lv_aload_n hx hb dX11_hang_166 rfl (lv_at hl 6 rfl) ?_
          refine lv_iload hx hb dX11_hang_167 (lv_at hl 0 rfl) ?_
          refine lv_iconst (v := 0) hx hb dX11_hang_169 (by decide) ?_
          refine kpurei (wc := [(h, oX11 x1863 aw ai ab ac hi x1868 aP 0 0 ta be de fa a5 sp av an ak ne aW aC ag aT aN aF), (aw, kcI cI 2179 g2590)]) hP hD hS hA [1, 2] rfl (by decide) (fun hPc hDc hFc => va_runV (As := [.int x2597, .int 0]) (rest := []) ⟨hx, hb, hml, hown, hts⟩ (r_of0 l D cI cJ cB cC h x1863 aw ai ab ac hi x1868 aP 0 0 ta be de fa a5 sp av an ak ne aW aC ag aT aN aF g2590 x2597 H.size k2598 hg2590_2) (cwV 2 hts gX11_hang_X11_of rfl rfl rfl ⟨rfl, hdX11_of⟩ ⟨Nat.le_of_ble_eq_true rfl, Nat.le_of_ble_eq_true rfl⟩) ⟨kBlind, va_recv hK hPc (ci := 10) (q0 := 0) rfl rfl, fun U hU hW => ⟨rfl, by rw [hU], hN.warm hW, hE.pass hS hFc hW hU, by rw [hU]; exact hPc, va_K.moved hW.alike hK, hDc⟩⟩ rfl rfl hl.1 rfl (lv_room (Nat.le_of_ble_eq_true rfl)) dX11_hang_170 ⟨Nat.le_of_ble_eq_true rfl, Nat.le_of_ble_eq_true rfl⟩) (fun r2599 u H locs hw hP hS => ?_)
          obtain ⟨k2600, k2601⟩ := hw
          refine k_join (hd := 205) (cells2 := 0) (slots2 := 0) (fun (u : Int32 × (Nat → Int32)) => match u with | (y2632, g2633) => []) (fun (u : Int32 × (Nat → Int32)) (H : Heap) (locs : List Loc) (ls : Array Slot) => match u with | (y2632, g2633) => (F_r_hang_l2_s ta.toInt (gT ft) x1863.toInt x1868.toInt (gT g1869) (y2588.toInt, y2589.toInt, (gT g2590)) = F_r_hang_j3 y2588.toInt y2632.toInt (gT g2633)) ∧ wB g2633 ∧ wL g2633 ∧ wW g2633 ∧ va_P D vwCl [(aP, .inl (cB, 400, .inl ft)), (h, oX11 x1863 aw ai ab ac hi x1868 aP 0 0 ta be de fa a5 sp av an ak ne aW aC ag aT aN aF), (aw, kcI cI 2179 g2633), (ac, kcI cI 6060 g1869)] H ∧ va_D A [(aP, .inl (cB, 400, .inl ft)), (h, oX11 x1863 aw ai ab ac hi x1868 aP 0 0 ta be de fa a5 sp av an ak ne aW aC ag aT aN aF), (aw, kcI cI 2179 g2633), (ac, kcI cI 6060 g1869)] ∧ va_S A s.heap H locs ∧ lv_has ls 7 [(6, .int x2597), (5, .int y2588), (4, .int y2632), (3, .int y1014), (2, .int y1015), (1, .int y1016), (0, .ref h)]) (fun u H locs ls hI => ?_) (fun hJ205 => ?_)
          · skip
            clear hP hD hS hl
            obtain ⟨y2632, g2633⟩ := u
            obtain ⟨hF3, hg2633_0, hg2633_1, hg2633_2, hP, hD, hS, hl⟩ := hI
            have hP : va_P D vwCl [(aP, .inl (cB, 400, .inl ft)), (h, oX11 x1863 aw ai ab ac hi x1868 aP 0 0 ta be de fa a5 sp av an ak ne aW aC ag aT aN aF), (aw, kcI cI 2179 g2633), (ac, kcI cI 6060 g1869)] H := hP
            have hD : va_D A [(aP, .inl (cB, 400, .inl ft)), (h, oX11 x1863 aw ai ab ac hi x1868 aP 0 0 ta be de fa a5 sp av an ak ne aW aC ag aT aN aF), (aw, kcI cI 2179 g2633), (ac, kcI cI 6060 g1869)] := hD
            have hl : lv_has ls 7 [(6, .int x2597), (5, .int y2588), (4, .int y2632), (3, .int y1014), (2, .int y1015), (1, .int y1016), (0, .ref h)] := hl
            obtain ⟨x2634, ex2634⟩ : ∃ y : Int32, y = y2588 + 1 := ⟨_, rfl⟩
            refine lv_iinc (v := x2634) (lv' := [(5, .int x2634), (6, .int x2597), (4, .int y2632), (3, .int y1014), (2, .int y1015), (1, .int y1016), (0, .ref h)]) hx hb dX11_hang_205 hl (k := 1) rfl (by rw [ex2634]; rfl) (by decide) rfl (fun ls hl => ?_)
            have k2635 : Rg x2634 1 400 := rg_add ex2634 k2593 (rg_lit (n := 1) (by decide)) (by decide)
            refine lv_goto (tgt := 145) hx hb dX11_hang_208 (by decide) ?_
            exact ih2591 (x2634, y2632, g2633) _ _ _ (by show (400 - (x2634).toInt).toNat < (400 - (y2588).toInt).toNat; exact mu_up ex2634 k2593 k2635 (by decide)) ⟨(hF2.trans (kIter_go (hF3.trans (kLet_eq (ti_add ex2634 k2593 (rg_lit (n := 1) (by decide)) (by decide) rfl rfl) rfl)))), (rg_w k2635 (by decide)), hg2633_0, hg2633_1, hg2633_2, hP.sub (ws' := [(aP, .inl (cB, 400, .inl ft)), (h, oX11 x1863 aw ai ab ac hi x1868 aP 0 0 ta be de fa a5 sp av an ak ne aW aC ag aT aN aF), (aw, kcI cI 2179 g2633), (ac, kcI cI 6060 g1869)]) [0, 1, 2, 3] rfl, hD.sub (ws' := [(aP, .inl (cB, 400, .inl ft)), (h, oX11 x1863 aw ai ab ac hi x1868 aP 0 0 ta be de fa a5 sp av an ak ne aW aC ag aT aN aF), (aw, kcI cI 2179 g2633), (ac, kcI cI 6060 g1869)]) [0, 1, 2, 3] (by decide) rfl, hS, lv_sub (l' := [(5, .int x2634), (4, .int y2632), (3, .int y1014), (2, .int y1015), (1, .int y1016), (0, .ref h)]) hl [0, 2, 3, 4, 5, 6] rfl⟩
          refine lv_if_ne (tgt := 205) hx hb dX11_hang_173 (by decide) (fun c2636 => ?_) (fun c2636 => ?_)
          · skip
            exact hJ205 (y2589, g2590) _ _ _ ⟨(kC_eq rfl (kC_eq rfl (kif_f (xF_le c2592) (kLet_eq (ke_ld ex2595) (kLet_eq (ti_sub ex2597 k2596 (rg_lit (n := 97) (by decide)) (by decide) rfl rfl) (kLet_eq (k2601).symm (kif_f (neI c2636) rfl))))))), hg2590_0, hg2590_1, hg2590_2, hP.sub (ws' := [(aP, .inl (cB, 400, .inl ft)), (h, oX11 x1863 aw ai ab ac hi x1868 aP 0 0 ta be de fa a5 sp av an ak ne aW aC ag aT aN aF), (aw, kcI cI 2179 g2590), (ac, kcI cI 6060 g1869)]) [0, 1, 2, 3] rfl, hD.sub (ws' := [(aP, .inl (cB, 400, .inl ft)), (h, oX11 x1863 aw ai ab ac hi x1868 aP 0 0 ta be de fa a5 sp av an ak ne aW aC ag aT aN aF), (aw, kcI cI 2179 g2590), (ac, kcI cI 6060 g1869)]) [0, 1, 2, 3] (by decide) rfl, hS, lv_sub (l' := [(6, .int x2597), (5, .int y2588), (4, .int y2589), (3, .int y1014), (2, .int y1015), (1, .int y1016), (0, .ref h)]) hl [0, 1, 2, 3, 4, 5, 6] rfl⟩
          · skip
            have k2637 : Rg r2599 0 0 := rg_q1 (eqI c2636) (rg_any r2599) (rg_lit (n := 0) (by decide)) (by decide)
            refine lv_aload_n hx hb dX11_hang_176 rfl (lv_at hl 6 rfl) ?_
            refine lv_iload hx hb dX11_hang_177 (lv_at hl 0 rfl) ?_
            refine lv_iload hx hb dX11_hang_179 (lv_at hl 1 rfl) ?_
            refine lv_iconst (v := 1) hx hb dX11_hang_181 (by decide) ?_
            refine lv_isub hx hb dX11_hang_182 ?_
            refine lv_topi (fun x2638 ex2638 => ?_)
            have tx2638 : x2638.toInt = y2588.toInt - 1 := ti_sub ex2638 k2593 (rg_lit (n := 1) (by decide)) (by decide) rfl (by decide)
            have k2639 : Rg x2638 (-1) 398 := rg_sub ex2638 k2593 (rg_lit (n := 1) (by decide)) (by decide)
            refine kcalli (wc := [(h, oX11 x1863 aw ai ab ac hi x1868 aP 0 0 ta be de fa a5 sp av an ak ne aW aC ag aT aN aF), (aw, kcI cI 2179 g2590), (aP, .inl (cB, 400, .inl ft))]) (wr := [(ac, kcI cI 6060 g1869)]) hP hD hS hA [1, 2, 0] [3] rfl rfl (by decide) (by decide) (by decide) (fun hPc hDc hFc => va_runV (As := [.int x2597, .int x2638]) (rest := []) ⟨hx, hb, hml, hown, hts⟩ (r_runsFrom l D cI cJ cB cC h x1863 aw ai ab ac hi x1868 aP 0 0 ta be de fa a5 sp av an ak ne aW aC ag aT aN aF g2590 ft x2597 x2638 H.size k2598 (rg_w k2594 (by decide)) hg2590_2 hg2590_0 hg2590_1 hHT) (cwV 2 hts gX11_hang_X11_runsFrom rfl rfl rfl ⟨rfl, hdX11_runsFrom⟩ ⟨Nat.le_of_ble_eq_true rfl, Nat.le_of_ble_eq_true rfl⟩) ⟨kBlind, va_recv hK hPc (ci := 10) (q0 := 0) rfl rfl, fun U hU hW => ⟨rfl, by rw [hU], hN.warm hW, hE.pass hS hFc hW hU, by rw [hU]; exact hPc, va_K.moved hW.alike hK, hDc⟩⟩ rfl rfl hl.1 rfl (lv_room (Nat.le_of_ble_eq_true rfl)) dX11_hang_183 ⟨Nat.le_of_ble_eq_true rfl, Nat.le_of_ble_eq_true rfl⟩) (fun r2640 u H locs hw hP hD hS => ?_)
            obtain ⟨g2641, rfl⟩ : ∃ z, z = u := ⟨_, rfl⟩
            have hP : va_P D vwCl [(ac, kcI cI 6060 g1869), (h, oX11 x1863 aw ai ab ac hi x1868 aP 0 0 ta be de fa a5 sp av an ak ne aW aC ag aT aN aF), (aw, kcI cI 2179 g2641), (aP, .inl (cB, 400, .inl ft))] H := hP
            have hD : va_D A [(ac, kcI cI 6060 g1869), (h, oX11 x1863 aw ai ab ac hi x1868 aP 0 0 ta be de fa a5 sp av an ak ne aW aC ag aT aN aF), (aw, kcI cI 2179 g2641), (aP, .inl (cB, 400, .inl ft))] := hD
            obtain ⟨k2642, k2643, k2644, k2645, k2646⟩ := hw
            refine k_join (hd := 202) (cells2 := 0) (slots2 := 0) (fun (g2663 : (Nat → Int32)) => []) (fun (g2663 : (Nat → Int32)) (H : Heap) (locs : List Loc) (ls : Array Slot) => (F_r_hang_l2_s ta.toInt (gT ft) x1863.toInt x1868.toInt (gT g1869) (y2588.toInt, y2589.toInt, (gT g2590)) = F_r_hang_j4 y2588.toInt y2589.toInt (gT g2663)) ∧ wB g2663 ∧ wL g2663 ∧ wW g2663 ∧ va_P D vwCl [(ac, kcI cI 6060 g1869), (h, oX11 x1863 aw ai ab ac hi x1868 aP 0 0 ta be de fa a5 sp av an ak ne aW aC ag aT aN aF), (aw, kcI cI 2179 g2663), (aP, .inl (cB, 400, .inl ft))] H ∧ va_D A [(ac, kcI cI 6060 g1869), (h, oX11 x1863 aw ai ab ac hi x1868 aP 0 0 ta be de fa a5 sp av an ak ne aW aC ag aT aN aF), (aw, kcI cI 2179 g2663), (aP, .inl (cB, 400, .inl ft))] ∧ va_S A s.heap H locs ∧ lv_has ls 7 [(6, .int x2597), (5, .int y2588), (4, .int y2589), (3, .int y1014), (2, .int y1015), (1, .int y1016), (0, .ref h)]) (fun u H locs ls hI => ?_) (fun hJ202 => ?_)
            · skip
              clear hP hD hS hl
              obtain ⟨g2663, rfl⟩ : ∃ z, z = u := ⟨_, rfl⟩
              obtain ⟨hF4, hg2663_0, hg2663_1, hg2663_2, hP, hD, hS, hl⟩ := hI
              have hP : va_P D vwCl [(ac, kcI cI 6060 g1869), (h, oX11 x1863 aw ai ab ac hi x1868 aP 0 0 ta be de fa a5 sp av an ak ne aW aC ag aT aN aF), (aw, kcI cI 2179 g2663), (aP, .inl (cB, 400, .inl ft))] H := hP
              have hD : va_D A [(ac, kcI cI 6060 g1869), (h, oX11 x1863 aw ai ab ac hi x1868 aP 0 0 ta be de fa a5 sp av an ak ne aW aC ag aT aN aF), (aw, kcI cI 2179 g2663), (aP, .inl (cB, 400, .inl ft))] := hD
              have hl : lv_has ls 7 [(6, .int x2597), (5, .int y2588), (4, .int y2589), (3, .int y1014), (2, .int y1015), (1, .int y1016), (0, .ref h)] := hl
              obtain ⟨x2664, ex2664⟩ : ∃ y : Int32, y = y2589 + 1 := ⟨_, rfl⟩
              refine lv_iinc (v := x2664) (lv' := [(4, .int x2664), (6, .int x2597), (5, .int y2588), (3, .int y1014), (2, .int y1015), (1, .int y1016), (0, .ref h)]) hx hb dX11_hang_202 hl (k := 2) rfl (by rw [ex2664]; rfl) (by decide) rfl (fun ls hl => ?_)
              exact hJ205 (x2664, g2663) _ _ _ ⟨(hF4.trans (kLet_eq (ke_wadd ex2664) rfl)), hg2663_0, hg2663_1, hg2663_2, hP.sub (ws' := [(aP, .inl (cB, 400, .inl ft)), (h, oX11 x1863 aw ai ab ac hi x1868 aP 0 0 ta be de fa a5 sp av an ak ne aW aC ag aT aN aF), (aw, kcI cI 2179 g2663), (ac, kcI cI 6060 g1869)]) [3, 1, 2, 0] rfl, hD.sub (ws' := [(aP, .inl (cB, 400, .inl ft)), (h, oX11 x1863 aw ai ab ac hi x1868 aP 0 0 ta be de fa a5 sp av an ak ne aW aC ag aT aN aF), (aw, kcI cI 2179 g2663), (ac, kcI cI 6060 g1869)]) [3, 1, 2, 0] (by decide) rfl, hS, lv_sub (l' := [(6, .int x2597), (5, .int y2588), (4, .int x2664), (3, .int y1014), (2, .int y1015), (1, .int y1016), (0, .ref h)]) hl [1, 2, 0, 3, 4, 5, 6] rfl⟩
            refine lv_if_ne (tgt := 202) hx hb dX11_hang_186 (by decide) (fun c2665 => ?_) (fun c2665 => ?_)
            · skip
              have k2666 : Rg r2640 1 1 := rg_n1 (neI c2665) k2645 (rg_lit (n := 0) (by decide)) (by decide)
              exact hJ202 (g2641) _ _ _ ⟨(kC_eq rfl (kC_eq rfl (kif_f (xF_le c2592) (kLet_eq (ke_ld ex2595) (kLet_eq (ti_sub ex2597 k2596 (rg_lit (n := 97) (by decide)) (by decide) rfl rfl) (kLet_eq (k2601).symm (kif_t (eqI c2636) (kLet_eq (ti_sub ex2638 k2593 (rg_lit (n := 1) (by decide)) (by decide) rfl rfl) (kC_eq k2646 (kif_f (neI c2665) rfl)))))))))), k2642, k2643, k2644, hP.sub (ws' := [(ac, kcI cI 6060 g1869), (h, oX11 x1863 aw ai ab ac hi x1868 aP 0 0 ta be de fa a5 sp av an ak ne aW aC ag aT aN aF), (aw, kcI cI 2179 g2641), (aP, .inl (cB, 400, .inl ft))]) [0, 1, 2, 3] rfl, hD.sub (ws' := [(ac, kcI cI 6060 g1869), (h, oX11 x1863 aw ai ab ac hi x1868 aP 0 0 ta be de fa a5 sp av an ak ne aW aC ag aT aN aF), (aw, kcI cI 2179 g2641), (aP, .inl (cB, 400, .inl ft))]) [0, 1, 2, 3] (by decide) rfl, hS, lv_sub (l' := [(6, .int x2597), (5, .int y2588), (4, .int y2589), (3, .int y1014), (2, .int y1015), (1, .int y1016), (0, .ref h)]) hl [0, 1, 2, 3, 4, 5, 6] rfl⟩
            · skip
              have k2667 : Rg r2640 0 0 := rg_q1 (eqI c2665) k2645 (rg_lit (n := 0) (by decide)) (by decide)
              refine lv_aload_n hx hb dX11_hang_189 rfl (lv_at hl 6 rfl) ?_
              refine lv_iload hx hb dX11_hang_190 (lv_at hl 0 rfl) ?_
              refine lv_iload hx hb dX11_hang_192 (lv_at hl 1 rfl) ?_
              refine lv_iconst (v := 1) hx hb dX11_hang_194 (by decide) ?_
              refine lv_iadd hx hb dX11_hang_195 ?_
              refine lv_topi (fun x2668 ex2668 => ?_)
              have tx2668 : x2668.toInt = y2588.toInt + 1 := ti_add ex2668 k2593 (rg_lit (n := 1) (by decide)) (by decide) rfl (by decide)
              have k2669 : Rg x2668 1 400 := rg_add ex2668 k2593 (rg_lit (n := 1) (by decide)) (by decide)
              refine kcalli (wc := [(h, oX11 x1863 aw ai ab ac hi x1868 aP 0 0 ta be de fa a5 sp av an ak ne aW aC ag aT aN aF), (aw, kcI cI 2179 g2641), (aP, .inl (cB, 400, .inl ft))]) (wr := [(ac, kcI cI 6060 g1869)]) hP hD hS hA [1, 2, 3] [0] rfl rfl (by decide) (by decide) (by decide) (fun hPc hDc hFc => va_runV (As := [.int x2597, .int x2668]) (rest := []) ⟨hx, hb, hml, hown, hts⟩ (r_runsFrom l D cI cJ cB cC h x1863 aw ai ab ac hi x1868 aP 0 0 ta be de fa a5 sp av an ak ne aW aC ag aT aN aF g2641 ft x2597 x2668 H.size k2598 (rg_w k2594 (by decide)) k2644 k2642 k2643 hHT) (cwV 2 hts gX11_hang_X11_runsFrom rfl rfl rfl ⟨rfl, hdX11_runsFrom⟩ ⟨Nat.le_of_ble_eq_true rfl, Nat.le_of_ble_eq_true rfl⟩) ⟨kBlind, va_recv hK hPc (ci := 10) (q0 := 0) rfl rfl, fun U hU hW => ⟨rfl, by rw [hU], hN.warm hW, hE.pass hS hFc hW hU, by rw [hU]; exact hPc, va_K.moved hW.alike hK, hDc⟩⟩ rfl rfl hl.1 rfl (lv_room (Nat.le_of_ble_eq_true rfl)) dX11_hang_196 ⟨Nat.le_of_ble_eq_true rfl, Nat.le_of_ble_eq_true rfl⟩) (fun r2670 u H locs hw hP hD hS => ?_)
              obtain ⟨g2671, rfl⟩ : ∃ z, z = u := ⟨_, rfl⟩
              have hP : va_P D vwCl [(ac, kcI cI 6060 g1869), (h, oX11 x1863 aw ai ab ac hi x1868 aP 0 0 ta be de fa a5 sp av an ak ne aW aC ag aT aN aF), (aw, kcI cI 2179 g2671), (aP, .inl (cB, 400, .inl ft))] H := hP
              have hD : va_D A [(ac, kcI cI 6060 g1869), (h, oX11 x1863 aw ai ab ac hi x1868 aP 0 0 ta be de fa a5 sp av an ak ne aW aC ag aT aN aF), (aw, kcI cI 2179 g2671), (aP, .inl (cB, 400, .inl ft))] := hD
              obtain ⟨k2672, k2673, k2674, k2675, k2676⟩ := hw
              refine lv_if_eq (tgt := 205) hx hb dX11_hang_199 (by decide) (fun c2677 => ?_) (fun c2677 => ?_)
              · skip
                have k2678 : Rg r2670 0 0 := rg_q1 (eqI c2677) k2675 (rg_lit (n := 0) (by decide)) (by decide)
                exact hJ205 (y2589, g2671) _ _ _ ⟨(kC_eq rfl (kC_eq rfl (kif_f (xF_le c2592) (kLet_eq (ke_ld ex2595) (kLet_eq (ti_sub ex2597 k2596 (rg_lit (n := 97) (by decide)) (by decide) rfl rfl) (kLet_eq (k2601).symm (kif_t (eqI c2636) (kLet_eq (ti_sub ex2638 k2593 (rg_lit (n := 1) (by decide)) (by decide) rfl rfl) (kC_eq k2646 (kif_t (eqI c2665) (kLet_eq (ti_add ex2668 k2593 (rg_lit (n := 1) (by decide)) (by decide) rfl rfl) (kC_eq k2676 (kif_t (eqI c2677) rfl))))))))))))), k2672, k2673, k2674, hP.sub (ws' := [(aP, .inl (cB, 400, .inl ft)), (h, oX11 x1863 aw ai ab ac hi x1868 aP 0 0 ta be de fa a5 sp av an ak ne aW aC ag aT aN aF), (aw, kcI cI 2179 g2671), (ac, kcI cI 6060 g1869)]) [3, 1, 2, 0] rfl, hD.sub (ws' := [(aP, .inl (cB, 400, .inl ft)), (h, oX11 x1863 aw ai ab ac hi x1868 aP 0 0 ta be de fa a5 sp av an ak ne aW aC ag aT aN aF), (aw, kcI cI 2179 g2671), (ac, kcI cI 6060 g1869)]) [3, 1, 2, 0] (by decide) rfl, hS, lv_sub (l' := [(6, .int x2597), (5, .int y2588), (4, .int y2589), (3, .int y1014), (2, .int y1015), (1, .int y1016), (0, .ref h)]) hl [0, 1, 2, 3, 4, 5, 6] rfl⟩
              · skip
                have k2679 : Rg r2670 1 1 := rg_n1 (neI c2677) k2675 (rg_lit (n := 0) (by decide)) (by decide)
                exact hJ202 (g2671) _ _ _ ⟨(kC_eq rfl (kC_eq rfl (kif_f (xF_le c2592) (kLet_eq (ke_ld ex2595) (kLet_eq (ti_sub ex2597 k2596 (rg_lit (n := 97) (by decide)) (by decide) rfl rfl) (kLet_eq (k2601).symm (kif_t (eqI c2636) (kLet_eq (ti_sub ex2638 k2593 (rg_lit (n := 1) (by decide)) (by decide) rfl rfl) (kC_eq k2646 (kif_t (eqI c2665) (kLet_eq (ti_add ex2668 k2593 (rg_lit (n := 1) (by decide)) (by decide) rfl rfl) (kC_eq k2676 (kif_f (neI c2677) rfl))))))))))))), k2672, k2673, k2674, hP.sub (ws' := [(ac, kcI cI 6060 g1869), (h, oX11 x1863 aw ai ab ac hi x1868 aP 0 0 ta be de fa a5 sp av an ak ne aW aC ag aT aN aF), (aw, kcI cI 2179 g2671), (aP, .inl (cB, 400, .inl ft))]) [0, 1, 2, 3] rfl, hD.sub (ws' := [(ac, kcI cI 6060 g1869), (h, oX11 x1863 aw ai ab ac hi x1868 aP 0 0 ta be de fa a5 sp av an ak ne aW aC ag aT aN aF), (aw, kcI cI 2179 g2671), (aP, .inl (cB, 400, .inl ft))]) [0, 1, 2, 3] (by decide) rfl, hS, lv_sub (l' := [(6, .int x2597), (5, .int y2588), (4, .int y2589), (3, .int y1014), (2, .int y1015), (1, .int y1016), (0, .ref h)]) hl [0, 1, 2, 3, 4, 5, 6] rfl⟩
      · skip
        have k2680 : Rg r1862 1 1 := rg_n1 (neI c1866) k1864 (rg_lit (n := 0) (by decide)) (by decide)
        refine lv_iconst (v := 0) hx hb dX11_hang_133 (by decide) ?_
        have hP9 := hP.sub (ws' := [(h, oX11 x1863 aw ai ab ac hi re aP 0 0 ta be de fa a5 sp av an ak ne aW aC ag aT aN aF), (aw, kcI cI 2179 fw), (aP, .inl (cB, 400, .inl ft)), (ac, kcI cI 6060 fc)]) [3, 0, 1, 2] rfl
        have hD9 := hD.sub (ws' := [(h, oX11 x1863 aw ai ab ac hi re aP 0 0 ta be de fa a5 sp av an ak ne aW aC ag aT aN aF), (aw, kcI cI 2179 fw), (aP, .inl (cB, 400, .inl ft)), (ac, kcI cI 6060 fc)]) [3, 0, 1, 2] (by decide) rfl
        exact W.iret (v := 0) hx hb hr (fun t ht hW => ⟨⟨0, (x1863, re, ta, fw, fc), rfl, ⟨H_re, H_ta, H_fw_B, H_fw_L, H_fw_W, H_fc_C, (hF1.trans (kIter_out (kC_eq rfl (kC_eq rfl (kC_eq rfl (kif_t (leI c1079) (kif_f (neI c1083) (kLet_eq (k1087).symm (kC_eq k1865 (kif_f (neI c1866) rfl))))))))))⟩, by rw [ht]; exact hP9, va_K.moved hW.alike hK, hD9⟩, hS.F ht⟩) hS.2.2 dX11_hang_134
    · skip
      have k2681 : Rg y1015 0 0 := rg_q1 (eqI c1083) hy1015 (rg_lit (n := 0) (by decide)) (by decide)
      refine lv_iconst (v := 1) hx hb dX11_hang_112 (by decide) ?_
      refine lv_goto (tgt := 117) hx hb dX11_hang_113 (by decide) ?_
      refine lv_iconst (v := 1) hx hb dX11_hang_117 (by decide) ?_
      refine kcalli (wc := [(h, oX11 0 aw ai ab ac hi re aP 0 0 ta be de fa a5 sp av an ak ne aW aC ag aT aN aF)]) (wr := [(aw, kcI cI 2179 fw), (aP, .inl (cB, 400, .inl ft)), (ac, kcI cI 6060 fc)]) hP hD hS hA [3] [0, 1, 2] rfl rfl (by decide) (by decide) (by decide) (fun hPc hDc hFc => va_runV (As := [.int 1, .int 1]) (rest := []) ⟨hx, hb, hml, hown, hts⟩ (r_throwsIf1_1 l D cI cJ cB cC h 0 aw ai ab ac hi re aP 0 0 ta be de fa a5 sp av an ak ne aW aC ag aT aN aF 1 H.size) (cwV 2 hts gX11_hang_X11_throwsIf rfl rfl rfl ⟨rfl, hdX11_throwsIf⟩ ⟨Nat.le_of_ble_eq_true rfl, Nat.le_of_ble_eq_true rfl⟩) ⟨kBlind, va_recv hK hPc (ci := 10) (q0 := 0) rfl rfl, fun U hU hW => ⟨rfl, by rw [hU], hN.warm hW, hE.pass hS hFc hW hU, by rw [hU]; exact hPc, va_K.moved hW.alike hK, hDc⟩⟩ rfl rfl hl.1 rfl (lv_room (Nat.le_of_ble_eq_true rfl)) dX11_hang_118 ⟨Nat.le_of_ble_eq_true rfl, Nat.le_of_ble_eq_true rfl⟩) (fun r2682 u H locs hw hP hD hS => ?_)
      obtain ⟨x2683, rfl⟩ : ∃ z, z = u := ⟨_, rfl⟩
      have hP : va_P D vwCl [(aw, kcI cI 2179 fw), (aP, .inl (cB, 400, .inl ft)), (ac, kcI cI 6060 fc), (h, oX11 x2683 aw ai ab ac hi re aP 0 0 ta be de fa a5 sp av an ak ne aW aC ag aT aN aF)] H := hP
      have hD : va_D A [(aw, kcI cI 2179 fw), (aP, .inl (cB, 400, .inl ft)), (ac, kcI cI 6060 fc), (h, oX11 x2683 aw ai ab ac hi re aP 0 0 ta be de fa a5 sp av an ak ne aW aC ag aT aN aF)] := hD
      obtain ⟨k2684, k2685⟩ := hw
      refine lv_if_ne (tgt := 133) hx hb dX11_hang_121 (by decide) (fun _ => ?_) (fun c2687 => absurd c2687 (rg_neq k2684 (rg_lit (n := 0) (by decide)) (by decide)))
      refine lv_iconst (v := 0) hx hb dX11_hang_133 (by decide) ?_
      have hP9 := hP.sub (ws' := [(h, oX11 x2683 aw ai ab ac hi re aP 0 0 ta be de fa a5 sp av an ak ne aW aC ag aT aN aF), (aw, kcI cI 2179 fw), (aP, .inl (cB, 400, .inl ft)), (ac, kcI cI 6060 fc)]) [3, 0, 1, 2] rfl
      have hD9 := hD.sub (ws' := [(h, oX11 x2683 aw ai ab ac hi re aP 0 0 ta be de fa a5 sp av an ak ne aW aC ag aT aN aF), (aw, kcI cI 2179 fw), (aP, .inl (cB, 400, .inl ft)), (ac, kcI cI 6060 fc)]) [3, 0, 1, 2] (by decide) rfl
      exact W.iret (v := 0) hx hb hr (fun t ht hW => ⟨⟨0, (x2683, re, ta, fw, fc), rfl, ⟨H_re, H_ta, H_fw_B, H_fw_L, H_fw_W, H_fc_C, (hF1.trans (kIter_out (kC_eq rfl (kC_eq rfl (kC_eq rfl (kif_t (leI c1079) (kif_t (eqI c1083) (kC_eq k2685 rfl))))))))⟩, by rw [ht]; exact hP9, va_K.moved hW.alike hK, hD9⟩, hS.F ht⟩) hS.2.2 dX11_hang_134
  · skip
    have k2688 : Rg y1013 0 399 := rg_l1 (nleI c1079) hy1013 H_ta (by decide)
    have k2689 : Rg ta 1 400 := rg_l2 (nleI c1079) hy1013 H_ta (by decide)
    refine lv_iload_n hx hb dX11_hang_22 rfl (lv_at hl 2 rfl) ?_
    refine lv_if_eq (tgt := 107) hx hb dX11_hang_23 (by decide) (fun c2690 => ?_) (fun c2690 => ?_)
    · skip
      have k2691 : Rg y1015 0 0 := rg_q1 (eqI c2690) hy1015 (rg_lit (n := 0) (by decide)) (by decide)
      refine lv_aload_n hx hb dX11_hang_107 rfl (lv_at hl 4 rfl) ?_
      refine lv_iload_n hx hb dX11_hang_108 rfl (lv_at hl 2 rfl) ?_
      refine lv_if_ne (tgt := 116) hx hb dX11_hang_109 (by decide) (fun c2693 => absurd (rg_eq k2691 (rg_lit (n := 0) (by decide)) (by decide)) c2693) (fun _ => ?_)
      refine lv_iconst (v := 1) hx hb dX11_hang_112 (by decide) ?_
      refine lv_goto (tgt := 117) hx hb dX11_hang_113 (by decide) ?_
      refine lv_iconst (v := 1) hx hb dX11_hang_117 (by decide) ?_
      refine kcalli (wc := [(h, oX11 0 aw ai ab ac hi re aP 0 0 ta be de fa a5 sp av an ak ne aW aC ag aT aN aF)]) (wr := [(aw, kcI cI 2179 fw), (aP, .inl (cB, 400, .inl ft)), (ac, kcI cI 6060 fc)]) hP hD hS hA [3] [0, 1, 2] rfl rfl (by decide) (by decide) (by decide) (fun hPc hDc hFc => va_runV (As := [.int 1, .int 1]) (rest := []) ⟨hx, hb, hml, hown, hts⟩ (r_throwsIf1_1 l D cI cJ cB cC h 0 aw ai ab ac hi re aP 0 0 ta be de fa a5 sp av an ak ne aW aC ag aT aN aF 1 H.size) (cwV 2 hts gX11_hang_X11_throwsIf rfl rfl rfl ⟨rfl, hdX11_throwsIf⟩ ⟨Nat.le_of_ble_eq_true rfl, Nat.le_of_ble_eq_true rfl⟩) ⟨kBlind, va_recv hK hPc (ci := 10) (q0 := 0) rfl rfl, fun U hU hW => ⟨rfl, by rw [hU], hN.warm hW, hE.pass hS hFc hW hU, by rw [hU]; exact hPc, va_K.moved hW.alike hK, hDc⟩⟩ rfl rfl hl.1 rfl (lv_room (Nat.le_of_ble_eq_true rfl)) dX11_hang_118 ⟨Nat.le_of_ble_eq_true rfl, Nat.le_of_ble_eq_true rfl⟩) (fun r2694 u H locs hw hP hD hS => ?_)
      obtain ⟨x2695, rfl⟩ : ∃ z, z = u := ⟨_, rfl⟩
      have hP : va_P D vwCl [(aw, kcI cI 2179 fw), (aP, .inl (cB, 400, .inl ft)), (ac, kcI cI 6060 fc), (h, oX11 x2695 aw ai ab ac hi re aP 0 0 ta be de fa a5 sp av an ak ne aW aC ag aT aN aF)] H := hP
      have hD : va_D A [(aw, kcI cI 2179 fw), (aP, .inl (cB, 400, .inl ft)), (ac, kcI cI 6060 fc), (h, oX11 x2695 aw ai ab ac hi re aP 0 0 ta be de fa a5 sp av an ak ne aW aC ag aT aN aF)] := hD
      obtain ⟨k2696, k2697⟩ := hw
      refine lv_if_ne (tgt := 133) hx hb dX11_hang_121 (by decide) (fun _ => ?_) (fun c2699 => absurd c2699 (rg_neq k2696 (rg_lit (n := 0) (by decide)) (by decide)))
      refine lv_iconst (v := 0) hx hb dX11_hang_133 (by decide) ?_
      have hP9 := hP.sub (ws' := [(h, oX11 x2695 aw ai ab ac hi re aP 0 0 ta be de fa a5 sp av an ak ne aW aC ag aT aN aF), (aw, kcI cI 2179 fw), (aP, .inl (cB, 400, .inl ft)), (ac, kcI cI 6060 fc)]) [3, 0, 1, 2] rfl
      have hD9 := hD.sub (ws' := [(h, oX11 x2695 aw ai ab ac hi re aP 0 0 ta be de fa a5 sp av an ak ne aW aC ag aT aN aF), (aw, kcI cI 2179 fw), (aP, .inl (cB, 400, .inl ft)), (ac, kcI cI 6060 fc)]) [3, 0, 1, 2] (by decide) rfl
      exact W.iret (v := 0) hx hb hr (fun t ht hW => ⟨⟨0, (x2695, re, ta, fw, fc), rfl, ⟨H_re, (rg_w k2689 (by decide)), H_fw_B, H_fw_L, H_fw_W, H_fc_C, (hF1.trans (kIter_out (kC_eq rfl (kC_eq rfl (kC_eq rfl (kif_f (xF_le c1079) (kif_t (eqI c2690) (kC_eq k2697 rfl))))))))⟩, by rw [ht]; exact hP9, va_K.moved hW.alike hK, hD9⟩, hS.F ht⟩) hS.2.2 dX11_hang_134
    · skip
      have k2700 : Rg y1015 1 1 := rg_n1 (neI c2690) hy1015 (rg_lit (n := 0) (by decide)) (by decide)
      refine lv_aload_n hx hb dX11_hang_26 rfl (lv_at hl 4 rfl) ?_
      refine va_get (D := D) (ci := 10) (v := .ref aP) (C := RX11) (T := TX11) (N := 26) hx hb hts iG_X11 hown hK hP 3 rfl rfl 7 (by decide) (hts _ w5_8) (fun _ h9 => h9) rfl dX11_hang_27 ?_
      refine lv_iload hx hb dX11_hang_30 (lv_at hl 0 rfl) ?_
      refine va_bald hx hb hK hP 1 2 rfl rfl (rg_in k2688 (by decide)) dX11_hang_32 ?_
      refine lv_topi (fun x2701 ex2701 => ?_)
      refine lv_bipush (v := 97) hx hb dX11_hang_33 (by decide) ?_
      refine lv_isub hx hb dX11_hang_35 ?_
      refine lv_topi (fun x2702 ex2702 => ?_)
      refine lv_istore (lv' := [(5, .int x2702), (4, .int y1013), (3, .int y1014), (2, .int y1015), (1, .int y1016), (0, .ref h)]) hx hb dX11_hang_36 hl (by decide) rfl (fun ls hl => ?_)
      refine lv_aload_n hx hb dX11_hang_38 rfl (lv_at hl 5 rfl) ?_
      refine lv_iload hx hb dX11_hang_39 (lv_at hl 0 rfl) ?_
      refine kpurei (wc := [(h, oX11 0 aw ai ab ac hi re aP 0 0 ta be de fa a5 sp av an ak ne aW aC ag aT aN aF), (aw, kcI cI 2179 fw)]) hP hD hS hA [3, 0] rfl (by decide) (fun hPc hDc hFc => va_runV (As := [.int x2702]) (rest := []) ⟨hx, hb, hml, hown, hts⟩ (r_noShirt l D cI cJ cB cC h 0 aw ai ab ac hi re aP 0 0 ta be de fa a5 sp av an ak ne aW aC ag aT aN aF fw x2702 H.size H_fw_W) (cwV 1 hts gX11_hang_X11_noShirt rfl rfl rfl ⟨rfl, hdX11_noShirt⟩ ⟨Nat.le_of_ble_eq_true rfl, Nat.le_of_ble_eq_true rfl⟩) ⟨kBlind, va_recv hK hPc (ci := 10) (q0 := 0) rfl rfl, fun U hU hW => ⟨rfl, by rw [hU], hN.warm hW, hE.pass hS hFc hW hU, by rw [hU]; exact hPc, va_K.moved hW.alike hK, hDc⟩⟩ rfl rfl hl.1 rfl (lv_room (Nat.le_of_ble_eq_true rfl)) dX11_hang_41 ⟨Nat.le_of_ble_eq_true rfl, Nat.le_of_ble_eq_true rfl⟩) (fun r2703 u H locs hw hP hS => ?_)
      obtain ⟨k2704, hw⟩ := hw
      rcases hw with ⟨rfl, kc2705_0, kc2705_1⟩ | rfl
      · skip
        refine lv_if_ne (tgt := 60) hx hb dX11_hang_44 (by decide) (fun c2713 => absurd (by decide) c2713) (fun _ => ?_)
        refine lv_iload_n hx hb dX11_hang_47 rfl (lv_at hl 4 rfl) ?_
        refine lv_iload hx hb dX11_hang_48 (lv_at hl 0 rfl) ?_
        refine kpurei (wc := []) hP hD hS hA [] rfl (by decide) (fun hPc hDc hFc => va_runS (As := [.int y1016, .int x2702]) (rest := []) ⟨hx, hb, hml, hown, hts⟩ (r_has l D cI cJ cB cC y1016 x2702 H.size) (va_cwS 2 hts gX11_hang_X11_has rfl rfl rfl hdX11_has ⟨Nat.le_of_ble_eq_true rfl, Nat.le_of_ble_eq_true rfl⟩) ⟨kBlind, fun U hU hW => ⟨rfl, by rw [hU], hN.warm hW, hE.pass hS hFc hW hU, by rw [hU]; exact hPc, va_K.moved hW.alike hK, hDc⟩⟩ rfl rfl hl.1 rfl (lv_room (Nat.le_of_ble_eq_true rfl)) dX11_hang_50 ⟨Nat.le_of_ble_eq_true rfl, Nat.le_of_ble_eq_true rfl⟩) (fun r2714 u H locs hw hP hS => ?_)
        obtain ⟨k2715, k2716⟩ := hw
        refine lv_if_ne (tgt := 60) hx hb dX11_hang_53 (by decide) (fun c2717 => ?_) (fun c2717 => ?_)
        · skip
          have k2718 : Rg r2714 1 1 := rg_n1 (neI c2717) k2715 (rg_lit (n := 0) (by decide)) (by decide)
          refine lv_iconst (v := 0) hx hb dX11_hang_60 (by decide) ?_
          refine lv_istore_n (lv' := [(2, .int 0), (5, .int x2702), (4, .int y1013), (3, .int y1014), (1, .int y1016), (0, .ref h)]) hx hb dX11_hang_61 rfl hl (by decide) rfl (fun ls hl => ?_)
          refine lv_iload_n hx hb dX11_hang_62 rfl (lv_at hl 4 rfl) ?_
          refine lv_iload_n hx hb dX11_hang_63 rfl (lv_at hl 0 rfl) ?_
          refine lv_if_eq (tgt := 74) hx hb dX11_hang_64 (by decide) (fun _ => ?_) (fun c2720 => absurd (by decide) c2720)
          refine lv_iconst (v := 0) hx hb dX11_hang_74 (by decide) ?_
          refine lv_ior hx hb dX11_hang_75 ?_
          refine lv_topi (fun x2721 ex2721 => ?_)
          have k2722 : Rg x2721 0 4095 := rg_or 12 ex2721 hy1016 (rg_lit (n := 0) (by decide)) (by decide)
          refine lv_istore_n (lv' := [(1, .int x2721), (2, .int 0), (5, .int x2702), (4, .int y1013), (3, .int y1014), (0, .ref h)]) hx hb dX11_hang_76 rfl hl (by decide) rfl (fun ls hl => ?_)
          refine lv_iload_n hx hb dX11_hang_77 rfl (lv_at hl 4 rfl) ?_
          refine lv_if_ne (tgt := 95) hx hb dX11_hang_78 (by decide) (fun c2727 => ?_) (fun c2727 => ?_)
          · skip
            have k2728 : Rg y1014 1 1 := rg_n1 (neI c2727) hy1014 (rg_lit (n := 0) (by decide)) (by decide)
            refine lv_iconst (v := 1) hx hb dX11_hang_95 (by decide) ?_
            refine lv_goto (tgt := 100) hx hb dX11_hang_96 (by decide) ?_
            refine lv_istore_n (lv' := [(3, .int 1), (1, .int x2721), (2, .int 0), (5, .int x2702), (4, .int y1013), (0, .ref h)]) hx hb dX11_hang_100 rfl hl (by decide) rfl (fun ls hl => ?_)
            obtain ⟨x2729, ex2729⟩ : ∃ y : Int32, y = y1013 + 1 := ⟨_, rfl⟩
            refine lv_iinc (v := x2729) (lv' := [(4, .int x2729), (3, .int 1), (1, .int x2721), (2, .int 0), (5, .int x2702), (0, .ref h)]) hx hb dX11_hang_101 hl (k := 4) rfl (by rw [ex2729]; rfl) (by decide) rfl (fun ls hl => ?_)
            have k2730 : Rg x2729 1 400 := rg_add ex2729 k2688 (rg_lit (n := 1) (by decide)) (by decide)
            refine lv_goto (tgt := 13) hx hb dX11_hang_104 (by decide) ?_
            exact ih1017 (x2729, (1 : Int32), (0 : Int32), x2721) _ _ _ (by show (400 - (x2729).toInt).toNat < (400 - (y1013).toInt).toNat; exact mu_up ex2729 k2688 k2730 (by decide)) ⟨(Or.inl (by decide)), (hF1.trans (kIter_go (kC_eq rfl (kC_eq rfl (kC_eq rfl (kif_f (xF_le c1079) (kif_f (neI c2690) (kLet_eq (ke_ld ex2701) (kLet_eq (ke_wsub ex2702) (kLet_eq (k2704).symm (kif_t rfl (kLet_eq (k2716).symm (kif_f (neI c2717) (kLet_eq (ke_or ex2721) (kif_f (neI c2727) (kLet_eq (ti_add ex2729 k2688 (rg_lit (n := 1) (by decide)) (by decide) rfl rfl) rfl)))))))))))))))), (rg_w k2730 (by decide)), (rg_w (rg_lit (n := 1) (by decide)) (by decide)), (rg_w (rg_lit (n := 0) (by decide)) (by decide)), k2722, hP.sub (ws' := [(aw, kcI cI 2179 fw), (aP, .inl (cB, 400, .inl ft)), (ac, kcI cI 6060 fc), (h, oX11 0 aw ai ab ac hi re aP 0 0 ta be de fa a5 sp av an ak ne aW aC ag aT aN aF)]) [0, 1, 2, 3] rfl, hD.sub (ws' := [(aw, kcI cI 2179 fw), (aP, .inl (cB, 400, .inl ft)), (ac, kcI cI 6060 fc), (h, oX11 0 aw ai ab ac hi re aP 0 0 ta be de fa a5 sp av an ak ne aW aC ag aT aN aF)]) [0, 1, 2, 3] (by decide) rfl, hS, lv_sub (l' := [(4, .int x2729), (3, .int 1), (2, .int 0), (1, .int x2721), (0, .ref h)]) hl [0, 1, 3, 2, 5] rfl⟩
          · skip
            have k2731 : Rg y1014 0 0 := rg_q1 (eqI c2727) hy1014 (rg_lit (n := 0) (by decide)) (by decide)
            refine lv_iload_n hx hb dX11_hang_81 rfl (lv_at hl 1 rfl) ?_
            refine lv_if_eq (tgt := 99) hx hb dX11_hang_82 (by decide) (fun _ => ?_) (fun c2733 => absurd (by decide) c2733)
            refine lv_iconst (v := 0) hx hb dX11_hang_99 (by decide) ?_
            refine lv_istore_n (lv' := [(3, .int 0), (1, .int x2721), (2, .int 0), (5, .int x2702), (4, .int y1013), (0, .ref h)]) hx hb dX11_hang_100 rfl hl (by decide) rfl (fun ls hl => ?_)
            obtain ⟨x2734, ex2734⟩ : ∃ y : Int32, y = y1013 + 1 := ⟨_, rfl⟩
            refine lv_iinc (v := x2734) (lv' := [(4, .int x2734), (3, .int 0), (1, .int x2721), (2, .int 0), (5, .int x2702), (0, .ref h)]) hx hb dX11_hang_101 hl (k := 4) rfl (by rw [ex2734]; rfl) (by decide) rfl (fun ls hl => ?_)
            have k2735 : Rg x2734 1 400 := rg_add ex2734 k2688 (rg_lit (n := 1) (by decide)) (by decide)
            refine lv_goto (tgt := 13) hx hb dX11_hang_104 (by decide) ?_
            exact ih1017 (x2734, (0 : Int32), (0 : Int32), x2721) _ _ _ (by show (400 - (x2734).toInt).toNat < (400 - (y1013).toInt).toNat; exact mu_up ex2734 k2688 k2735 (by decide)) ⟨(Or.inl (by decide)), (hF1.trans (kIter_go (kC_eq rfl (kC_eq rfl (kC_eq rfl (kif_f (xF_le c1079) (kif_f (neI c2690) (kLet_eq (ke_ld ex2701) (kLet_eq (ke_wsub ex2702) (kLet_eq (k2704).symm (kif_t rfl (kLet_eq (k2716).symm (kif_f (neI c2717) (kLet_eq (ke_or ex2721) (kif_t (eqI c2727) (kLet_eq (ti_add ex2734 k2688 (rg_lit (n := 1) (by decide)) (by decide) rfl rfl) rfl)))))))))))))))), (rg_w k2735 (by decide)), (rg_w (rg_lit (n := 0) (by decide)) (by decide)), (rg_w (rg_lit (n := 0) (by decide)) (by decide)), k2722, hP.sub (ws' := [(aw, kcI cI 2179 fw), (aP, .inl (cB, 400, .inl ft)), (ac, kcI cI 6060 fc), (h, oX11 0 aw ai ab ac hi re aP 0 0 ta be de fa a5 sp av an ak ne aW aC ag aT aN aF)]) [0, 1, 2, 3] rfl, hD.sub (ws' := [(aw, kcI cI 2179 fw), (aP, .inl (cB, 400, .inl ft)), (ac, kcI cI 6060 fc), (h, oX11 0 aw ai ab ac hi re aP 0 0 ta be de fa a5 sp av an ak ne aW aC ag aT aN aF)]) [0, 1, 2, 3] (by decide) rfl, hS, lv_sub (l' := [(4, .int x2734), (3, .int 0), (2, .int 0), (1, .int x2721), (0, .ref h)]) hl [0, 1, 3, 2, 5] rfl⟩
        · skip
          have k2736 : Rg r2714 0 0 := rg_q1 (eqI c2717) k2715 (rg_lit (n := 0) (by decide)) (by decide)
          refine lv_iconst (v := 1) hx hb dX11_hang_56 (by decide) ?_
          refine lv_goto (tgt := 61) hx hb dX11_hang_57 (by decide) ?_
          refine lv_istore_n (lv' := [(2, .int 1), (5, .int x2702), (4, .int y1013), (3, .int y1014), (1, .int y1016), (0, .ref h)]) hx hb dX11_hang_61 rfl hl (by decide) rfl (fun ls hl => ?_)
          refine lv_iload_n hx hb dX11_hang_62 rfl (lv_at hl 4 rfl) ?_
          refine lv_iload_n hx hb dX11_hang_63 rfl (lv_at hl 0 rfl) ?_
          refine lv_if_eq (tgt := 74) hx hb dX11_hang_64 (by decide) (fun c2740 => absurd c2740 (by decide)) (fun _ => ?_)
          refine lv_iconst (v := 1) hx hb dX11_hang_67 (by decide) ?_
          refine lv_iload hx hb dX11_hang_68 (lv_at hl 1 rfl) ?_
          refine lv_ishl hx hb dX11_hang_70 ?_
          refine lv_topi (fun x2741 ex2741 => ?_)
          have k2742 : Rg x2741 1 2048 := rg_shl1 11 ex2741 kc2705_0 (by decide)
          refine lv_goto (tgt := 75) hx hb dX11_hang_71 (by decide) ?_
          refine lv_ior hx hb dX11_hang_75 ?_
          refine lv_topi (fun x2743 ex2743 => ?_)
          have k2744 : Rg x2743 0 4095 := rg_or 12 ex2743 hy1016 k2742 (by decide)
          refine lv_istore_n (lv' := [(1, .int x2743), (2, .int 1), (5, .int x2702), (4, .int y1013), (3, .int y1014), (0, .ref h)]) hx hb dX11_hang_76 rfl hl (by decide) rfl (fun ls hl => ?_)
          refine lv_iload_n hx hb dX11_hang_77 rfl (lv_at hl 4 rfl) ?_
          refine k_join (hd := 95) (cells2 := 0) (slots2 := 0) (fun (_ : Unit) => []) (fun (_ : Unit) (H : Heap) (locs : List Loc) (ls : Array Slot) => (F_r_hang_l1_s re.toInt ta.toInt (gT fw) (gT ft) (gT fc) (y1013.toInt, y1014.toInt, y1015.toInt, y1016.toInt) = F_r_hang_j5 y1013.toInt x2743.toInt) ∧ va_P D vwCl [(aw, kcI cI 2179 fw), (aP, .inl (cB, 400, .inl ft)), (ac, kcI cI 6060 fc), (h, oX11 0 aw ai ab ac hi re aP 0 0 ta be de fa a5 sp av an ak ne aW aC ag aT aN aF)] H ∧ va_D A [(aw, kcI cI 2179 fw), (aP, .inl (cB, 400, .inl ft)), (ac, kcI cI 6060 fc), (h, oX11 0 aw ai ab ac hi re aP 0 0 ta be de fa a5 sp av an ak ne aW aC ag aT aN aF)] ∧ va_S A s.heap H locs ∧ lv_has ls 7 [(1, .int x2743), (2, .int 1), (5, .int x2702), (4, .int y1013), (3, .int y1014), (0, .ref h)]) (fun u H locs ls hI => ?_) (fun hJ95 => ?_)
          · skip
            clear hP hD hS hl
            obtain ⟨hF5, hP, hD, hS, hl⟩ := hI
            have hP : va_P D vwCl [(aw, kcI cI 2179 fw), (aP, .inl (cB, 400, .inl ft)), (ac, kcI cI 6060 fc), (h, oX11 0 aw ai ab ac hi re aP 0 0 ta be de fa a5 sp av an ak ne aW aC ag aT aN aF)] H := hP
            have hD : va_D A [(aw, kcI cI 2179 fw), (aP, .inl (cB, 400, .inl ft)), (ac, kcI cI 6060 fc), (h, oX11 0 aw ai ab ac hi re aP 0 0 ta be de fa a5 sp av an ak ne aW aC ag aT aN aF)] := hD
            have hl : lv_has ls 7 [(1, .int x2743), (2, .int 1), (5, .int x2702), (4, .int y1013), (3, .int y1014), (0, .ref h)] := hl
            refine lv_iconst (v := 1) hx hb dX11_hang_95 (by decide) ?_
            refine lv_goto (tgt := 100) hx hb dX11_hang_96 (by decide) ?_
            refine lv_istore_n (lv' := [(3, .int 1), (1, .int x2743), (2, .int 1), (5, .int x2702), (4, .int y1013), (0, .ref h)]) hx hb dX11_hang_100 rfl hl (by decide) rfl (fun ls hl => ?_)
            obtain ⟨x2756, ex2756⟩ : ∃ y : Int32, y = y1013 + 1 := ⟨_, rfl⟩
            refine lv_iinc (v := x2756) (lv' := [(4, .int x2756), (3, .int 1), (1, .int x2743), (2, .int 1), (5, .int x2702), (0, .ref h)]) hx hb dX11_hang_101 hl (k := 4) rfl (by rw [ex2756]; rfl) (by decide) rfl (fun ls hl => ?_)
            have k2757 : Rg x2756 1 400 := rg_add ex2756 k2688 (rg_lit (n := 1) (by decide)) (by decide)
            refine lv_goto (tgt := 13) hx hb dX11_hang_104 (by decide) ?_
            exact ih1017 (x2756, (1 : Int32), (1 : Int32), x2743) _ _ _ (by show (400 - (x2756).toInt).toNat < (400 - (y1013).toInt).toNat; exact mu_up ex2756 k2688 k2757 (by decide)) ⟨(Or.inr (hg_step ((hX13_0).resolve_left (by have q1 := neI c2690; have q2 : (0 : Int32).toInt = 0 := (by decide); omega)) (ti_add (Y := 1) ex2756 k2688 (rg_lit (n := 1) (by decide)) (by decide) rfl (by decide)) (by have q1 := k2688; unfold Rg at q1; omega) ex2701 (cl_of (k := cN y1013) k2688 (by decide) (by simp only [cN]; have q1 := k2688; unfold Rg at q1; omega)) kc2705_0 (hg_97 ex2702 kc2705_0))), (hF1.trans (kIter_go (hF5.trans (kLet_eq (ti_add ex2756 k2688 (rg_lit (n := 1) (by decide)) (by decide) rfl rfl) rfl)))), (rg_w k2757 (by decide)), (rg_w (rg_lit (n := 1) (by decide)) (by decide)), (rg_w (rg_lit (n := 1) (by decide)) (by decide)), k2744, hP.sub (ws' := [(aw, kcI cI 2179 fw), (aP, .inl (cB, 400, .inl ft)), (ac, kcI cI 6060 fc), (h, oX11 0 aw ai ab ac hi re aP 0 0 ta be de fa a5 sp av an ak ne aW aC ag aT aN aF)]) [0, 1, 2, 3] rfl, hD.sub (ws' := [(aw, kcI cI 2179 fw), (aP, .inl (cB, 400, .inl ft)), (ac, kcI cI 6060 fc), (h, oX11 0 aw ai ab ac hi re aP 0 0 ta be de fa a5 sp av an ak ne aW aC ag aT aN aF)]) [0, 1, 2, 3] (by decide) rfl, hS, lv_sub (l' := [(4, .int x2756), (3, .int 1), (2, .int 1), (1, .int x2743), (0, .ref h)]) hl [0, 1, 3, 2, 5] rfl⟩
          refine lv_if_ne (tgt := 95) hx hb dX11_hang_78 (by decide) (fun c2758 => ?_) (fun c2758 => ?_)
          · skip
            have k2759 : Rg y1014 1 1 := rg_n1 (neI c2758) hy1014 (rg_lit (n := 0) (by decide)) (by decide)
            exact hJ95 () _ _ _ ⟨(kC_eq rfl (kC_eq rfl (kC_eq rfl (kif_f (xF_le c1079) (kif_f (neI c2690) (kLet_eq (ke_ld ex2701) (kLet_eq (ke_wsub ex2702) (kLet_eq (k2704).symm (kif_t rfl (kLet_eq (k2716).symm (kif_t (eqI c2717) (kLet_eq (ke_shl ex2741) (kLet_eq (ke_or ex2743) (kif_f (neI c2758) rfl)))))))))))))), hP.sub (ws' := [(aw, kcI cI 2179 fw), (aP, .inl (cB, 400, .inl ft)), (ac, kcI cI 6060 fc), (h, oX11 0 aw ai ab ac hi re aP 0 0 ta be de fa a5 sp av an ak ne aW aC ag aT aN aF)]) [0, 1, 2, 3] rfl, hD.sub (ws' := [(aw, kcI cI 2179 fw), (aP, .inl (cB, 400, .inl ft)), (ac, kcI cI 6060 fc), (h, oX11 0 aw ai ab ac hi re aP 0 0 ta be de fa a5 sp av an ak ne aW aC ag aT aN aF)]) [0, 1, 2, 3] (by decide) rfl, hS, lv_sub (l' := [(1, .int x2743), (2, .int 1), (5, .int x2702), (4, .int y1013), (3, .int y1014), (0, .ref h)]) hl [0, 1, 2, 3, 4, 5] rfl⟩
          · skip
            have k2760 : Rg y1014 0 0 := rg_q1 (eqI c2758) hy1014 (rg_lit (n := 0) (by decide)) (by decide)
            refine lv_iload_n hx hb dX11_hang_81 rfl (lv_at hl 1 rfl) ?_
            refine lv_if_eq (tgt := 99) hx hb dX11_hang_82 (by decide) (fun c2769 => absurd c2769 (by decide)) (fun _ => ?_)
            refine lv_aload_n hx hb dX11_hang_85 rfl (lv_at hl 5 rfl) ?_
            refine lv_iload hx hb dX11_hang_86 (lv_at hl 2 rfl) ?_
            refine lv_iconst (v := 5) hx hb dX11_hang_88 (by decide) ?_
            refine kpurei (wc := [(h, oX11 0 aw ai ab ac hi re aP 0 0 ta be de fa a5 sp av an ak ne aW aC ag aT aN aF), (aw, kcI cI 2179 fw)]) hP hD hS hA [3, 0] rfl (by decide) (fun hPc hDc hFc => va_runV (As := [.int x2702, .int 5]) (rest := []) ⟨hx, hb, hml, hown, hts⟩ (r_of5 l D cI cJ cB cC h 0 aw ai ab ac hi re aP 0 0 ta be de fa a5 sp av an ak ne aW aC ag aT aN aF fw x2702 H.size kc2705_0 H_fw_W) (cwV 2 hts gX11_hang_X11_of rfl rfl rfl ⟨rfl, hdX11_of⟩ ⟨Nat.le_of_ble_eq_true rfl, Nat.le_of_ble_eq_true rfl⟩) ⟨kBlind, va_recv hK hPc (ci := 10) (q0 := 0) rfl rfl, fun U hU hW => ⟨rfl, by rw [hU], hN.warm hW, hE.pass hS hFc hW hU, by rw [hU]; exact hPc, va_K.moved hW.alike hK, hDc⟩⟩ rfl rfl hl.1 rfl (lv_room (Nat.le_of_ble_eq_true rfl)) dX11_hang_89 ⟨Nat.le_of_ble_eq_true rfl, Nat.le_of_ble_eq_true rfl⟩) (fun r2770 u H locs hw hP hS => ?_)
            obtain ⟨k2771, k2772, k2773⟩ := hw
            refine lv_if_lt (tgt := 99) hx hb dX11_hang_92 (by decide) (fun c2774 => ?_) (fun c2774 => ?_)
            · skip
              have k2775 : Rg r2770 (-1) (-1) := rg_l1 (ltI c2774) k2772 (rg_lit (n := 0) (by decide)) (by decide)
              refine lv_iconst (v := 0) hx hb dX11_hang_99 (by decide) ?_
              refine lv_istore_n (lv' := [(3, .int 0), (1, .int x2743), (2, .int 1), (5, .int x2702), (4, .int y1013), (0, .ref h)]) hx hb dX11_hang_100 rfl hl (by decide) rfl (fun ls hl => ?_)
              obtain ⟨x2776, ex2776⟩ : ∃ y : Int32, y = y1013 + 1 := ⟨_, rfl⟩
              refine lv_iinc (v := x2776) (lv' := [(4, .int x2776), (3, .int 0), (1, .int x2743), (2, .int 1), (5, .int x2702), (0, .ref h)]) hx hb dX11_hang_101 hl (k := 4) rfl (by rw [ex2776]; rfl) (by decide) rfl (fun ls hl => ?_)
              have k2777 : Rg x2776 1 400 := rg_add ex2776 k2688 (rg_lit (n := 1) (by decide)) (by decide)
              refine lv_goto (tgt := 13) hx hb dX11_hang_104 (by decide) ?_
              exact ih1017 (x2776, (0 : Int32), (1 : Int32), x2743) _ _ _ (by show (400 - (x2776).toInt).toNat < (400 - (y1013).toInt).toNat; exact mu_up ex2776 k2688 k2777 (by decide)) ⟨(Or.inr (hg_step ((hX13_0).resolve_left (by have q1 := neI c2690; have q2 : (0 : Int32).toInt = 0 := (by decide); omega)) (ti_add (Y := 1) ex2776 k2688 (rg_lit (n := 1) (by decide)) (by decide) rfl (by decide)) (by have q1 := k2688; unfold Rg at q1; omega) ex2701 (cl_of (k := cN y1013) k2688 (by decide) (by simp only [cN]; have q1 := k2688; unfold Rg at q1; omega)) kc2705_0 (hg_97 ex2702 kc2705_0))), (hF1.trans (kIter_go (kC_eq rfl (kC_eq rfl (kC_eq rfl (kif_f (xF_le c1079) (kif_f (neI c2690) (kLet_eq (ke_ld ex2701) (kLet_eq (ke_wsub ex2702) (kLet_eq (k2704).symm (kif_t rfl (kLet_eq (k2716).symm (kif_t (eqI c2717) (kLet_eq (ke_shl ex2741) (kLet_eq (ke_or ex2743) (kif_t (eqI c2758) (kLet_eq (k2773).symm (kif_t (ltI c2774) (kLet_eq (ti_add ex2776 k2688 (rg_lit (n := 1) (by decide)) (by decide) rfl rfl) rfl))))))))))))))))))), (rg_w k2777 (by decide)), (rg_w (rg_lit (n := 0) (by decide)) (by decide)), (rg_w (rg_lit (n := 1) (by decide)) (by decide)), k2744, hP.sub (ws' := [(aw, kcI cI 2179 fw), (aP, .inl (cB, 400, .inl ft)), (ac, kcI cI 6060 fc), (h, oX11 0 aw ai ab ac hi re aP 0 0 ta be de fa a5 sp av an ak ne aW aC ag aT aN aF)]) [0, 1, 2, 3] rfl, hD.sub (ws' := [(aw, kcI cI 2179 fw), (aP, .inl (cB, 400, .inl ft)), (ac, kcI cI 6060 fc), (h, oX11 0 aw ai ab ac hi re aP 0 0 ta be de fa a5 sp av an ak ne aW aC ag aT aN aF)]) [0, 1, 2, 3] (by decide) rfl, hS, lv_sub (l' := [(4, .int x2776), (3, .int 0), (2, .int 1), (1, .int x2743), (0, .ref h)]) hl [0, 1, 3, 2, 5] rfl⟩
            · skip
              have k2778 : Rg r2770 0 9 := rg_e2 (nltI c2774) (rg_lit (n := 0) (by decide)) k2772 (by decide)
              exact hJ95 () _ _ _ ⟨(kC_eq rfl (kC_eq rfl (kC_eq rfl (kif_f (xF_le c1079) (kif_f (neI c2690) (kLet_eq (ke_ld ex2701) (kLet_eq (ke_wsub ex2702) (kLet_eq (k2704).symm (kif_t rfl (kLet_eq (k2716).symm (kif_t (eqI c2717) (kLet_eq (ke_shl ex2741) (kLet_eq (ke_or ex2743) (kif_t (eqI c2758) (kLet_eq (k2773).symm (kif_f (xF_lt c2774) rfl)))))))))))))))), hP.sub (ws' := [(aw, kcI cI 2179 fw), (aP, .inl (cB, 400, .inl ft)), (ac, kcI cI 6060 fc), (h, oX11 0 aw ai ab ac hi re aP 0 0 ta be de fa a5 sp av an ak ne aW aC ag aT aN aF)]) [0, 1, 2, 3] rfl, hD.sub (ws' := [(aw, kcI cI 2179 fw), (aP, .inl (cB, 400, .inl ft)), (ac, kcI cI 6060 fc), (h, oX11 0 aw ai ab ac hi re aP 0 0 ta be de fa a5 sp av an ak ne aW aC ag aT aN aF)]) [0, 1, 2, 3] (by decide) rfl, hS, lv_sub (l' := [(1, .int x2743), (2, .int 1), (5, .int x2702), (4, .int y1013), (3, .int y1014), (0, .ref h)]) hl [0, 1, 2, 3, 4, 5] rfl⟩
      · skip
        refine lv_if_ne (tgt := 60) hx hb dX11_hang_44 (by decide) (fun _ => ?_) (fun c2780 => absurd c2780 (by decide))
        refine lv_iconst (v := 0) hx hb dX11_hang_60 (by decide) ?_
        refine lv_istore_n (lv' := [(2, .int 0), (5, .int x2702), (4, .int y1013), (3, .int y1014), (1, .int y1016), (0, .ref h)]) hx hb dX11_hang_61 rfl hl (by decide) rfl (fun ls hl => ?_)
        refine lv_iload_n hx hb dX11_hang_62 rfl (lv_at hl 4 rfl) ?_
        refine lv_iload_n hx hb dX11_hang_63 rfl (lv_at hl 0 rfl) ?_
        refine lv_if_eq (tgt := 74) hx hb dX11_hang_64 (by decide) (fun _ => ?_) (fun c2782 => absurd (by decide) c2782)
        refine lv_iconst (v := 0) hx hb dX11_hang_74 (by decide) ?_
        refine lv_ior hx hb dX11_hang_75 ?_
        refine lv_topi (fun x2783 ex2783 => ?_)
        have k2784 : Rg x2783 0 4095 := rg_or 12 ex2783 hy1016 (rg_lit (n := 0) (by decide)) (by decide)
        refine lv_istore_n (lv' := [(1, .int x2783), (2, .int 0), (5, .int x2702), (4, .int y1013), (3, .int y1014), (0, .ref h)]) hx hb dX11_hang_76 rfl hl (by decide) rfl (fun ls hl => ?_)
        refine lv_iload_n hx hb dX11_hang_77 rfl (lv_at hl 4 rfl) ?_
        refine lv_if_ne (tgt := 95) hx hb dX11_hang_78 (by decide) (fun c2789 => ?_) (fun c2789 => ?_)
        · skip
          have k2790 : Rg y1014 1 1 := rg_n1 (neI c2789) hy1014 (rg_lit (n := 0) (by decide)) (by decide)
          refine lv_iconst (v := 1) hx hb dX11_hang_95 (by decide) ?_
          refine lv_goto (tgt := 100) hx hb dX11_hang_96 (by decide) ?_
          refine lv_istore_n (lv' := [(3, .int 1), (1, .int x2783), (2, .int 0), (5, .int x2702), (4, .int y1013), (0, .ref h)]) hx hb dX11_hang_100 rfl hl (by decide) rfl (fun ls hl => ?_)
          obtain ⟨x2791, ex2791⟩ : ∃ y : Int32, y = y1013 + 1 := ⟨_, rfl⟩
          refine lv_iinc (v := x2791) (lv' := [(4, .int x2791), (3, .int 1), (1, .int x2783), (2, .int 0), (5, .int x2702), (0, .ref h)]) hx hb dX11_hang_101 hl (k := 4) rfl (by rw [ex2791]; rfl) (by decide) rfl (fun ls hl => ?_)
          have k2792 : Rg x2791 1 400 := rg_add ex2791 k2688 (rg_lit (n := 1) (by decide)) (by decide)
          refine lv_goto (tgt := 13) hx hb dX11_hang_104 (by decide) ?_
          exact ih1017 (x2791, (1 : Int32), (0 : Int32), x2783) _ _ _ (by show (400 - (x2791).toInt).toNat < (400 - (y1013).toInt).toNat; exact mu_up ex2791 k2688 k2792 (by decide)) ⟨(Or.inl (by decide)), (hF1.trans (kIter_go (kC_eq rfl (kC_eq rfl (kC_eq rfl (kif_f (xF_le c1079) (kif_f (neI c2690) (kLet_eq (ke_ld ex2701) (kLet_eq (ke_wsub ex2702) (kLet_eq (k2704).symm (kif_f (by decide) (kLet_eq (ke_or ex2783) (kif_f (neI c2789) (kLet_eq (ti_add ex2791 k2688 (rg_lit (n := 1) (by decide)) (by decide) rfl rfl) rfl)))))))))))))), (rg_w k2792 (by decide)), (rg_w (rg_lit (n := 1) (by decide)) (by decide)), (rg_w (rg_lit (n := 0) (by decide)) (by decide)), k2784, hP.sub (ws' := [(aw, kcI cI 2179 fw), (aP, .inl (cB, 400, .inl ft)), (ac, kcI cI 6060 fc), (h, oX11 0 aw ai ab ac hi re aP 0 0 ta be de fa a5 sp av an ak ne aW aC ag aT aN aF)]) [0, 1, 2, 3] rfl, hD.sub (ws' := [(aw, kcI cI 2179 fw), (aP, .inl (cB, 400, .inl ft)), (ac, kcI cI 6060 fc), (h, oX11 0 aw ai ab ac hi re aP 0 0 ta be de fa a5 sp av an ak ne aW aC ag aT aN aF)]) [0, 1, 2, 3] (by decide) rfl, hS, lv_sub (l' := [(4, .int x2791), (3, .int 1), (2, .int 0), (1, .int x2783), (0, .ref h)]) hl [0, 1, 3, 2, 5] rfl⟩
        · skip
          have k2793 : Rg y1014 0 0 := rg_q1 (eqI c2789) hy1014 (rg_lit (n := 0) (by decide)) (by decide)
          refine lv_iload_n hx hb dX11_hang_81 rfl (lv_at hl 1 rfl) ?_
          refine lv_if_eq (tgt := 99) hx hb dX11_hang_82 (by decide) (fun _ => ?_) (fun c2795 => absurd (by decide) c2795)
          refine lv_iconst (v := 0) hx hb dX11_hang_99 (by decide) ?_
          refine lv_istore_n (lv' := [(3, .int 0), (1, .int x2783), (2, .int 0), (5, .int x2702), (4, .int y1013), (0, .ref h)]) hx hb dX11_hang_100 rfl hl (by decide) rfl (fun ls hl => ?_)
          obtain ⟨x2796, ex2796⟩ : ∃ y : Int32, y = y1013 + 1 := ⟨_, rfl⟩
          refine lv_iinc (v := x2796) (lv' := [(4, .int x2796), (3, .int 0), (1, .int x2783), (2, .int 0), (5, .int x2702), (0, .ref h)]) hx hb dX11_hang_101 hl (k := 4) rfl (by rw [ex2796]; rfl) (by decide) rfl (fun ls hl => ?_)
          have k2797 : Rg x2796 1 400 := rg_add ex2796 k2688 (rg_lit (n := 1) (by decide)) (by decide)
          refine lv_goto (tgt := 13) hx hb dX11_hang_104 (by decide) ?_
          exact ih1017 (x2796, (0 : Int32), (0 : Int32), x2783) _ _ _ (by show (400 - (x2796).toInt).toNat < (400 - (y1013).toInt).toNat; exact mu_up ex2796 k2688 k2797 (by decide)) ⟨(Or.inl (by decide)), (hF1.trans (kIter_go (kC_eq rfl (kC_eq rfl (kC_eq rfl (kif_f (xF_le c1079) (kif_f (neI c2690) (kLet_eq (ke_ld ex2701) (kLet_eq (ke_wsub ex2702) (kLet_eq (k2704).symm (kif_f (by decide) (kLet_eq (ke_or ex2783) (kif_t (eqI c2789) (kLet_eq (ti_add ex2796 k2688 (rg_lit (n := 1) (by decide)) (by decide) rfl rfl) rfl)))))))))))))), (rg_w k2797 (by decide)), (rg_w (rg_lit (n := 0) (by decide)) (by decide)), (rg_w (rg_lit (n := 0) (by decide)) (by decide)), k2784, hP.sub (ws' := [(aw, kcI cI 2179 fw), (aP, .inl (cB, 400, .inl ft)), (ac, kcI cI 6060 fc), (h, oX11 0 aw ai ab ac hi re aP 0 0 ta be de fa a5 sp av an ak ne aW aC ag aT aN aF)]) [0, 1, 2, 3] rfl, hD.sub (ws' := [(aw, kcI cI 2179 fw), (aP, .inl (cB, 400, .inl ft)), (ac, kcI cI 6060 fc), (h, oX11 0 aw ai ab ac hi re aP 0 0 ta be de fa a5 sp av an ak ne aW aC ag aT aN aF)]) [0, 1, 2, 3] (by decide) rfl, hS, lv_sub (l' := [(4, .int x2796), (3, .int 0), (2, .int 0), (1, .int x2783), (0, .ref h)]) hl [0, 1, 3, 2, 5] rfl⟩

