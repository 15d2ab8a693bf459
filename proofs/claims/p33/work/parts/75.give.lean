def kwX11_give : List Cond := .code yX11_give cX11_give 3 (some .int) :: kG
theorem hdX11_give : yX11_give.cls ≠ "java/lang/invoke/MethodHandle" ∧ yX11_give.cls ≠ "java/lang/invoke/VarHandle" ∧ (parseMethodDescriptor yX11_give.desc).map (fun d => d.parameters.length) = some 2 := by decide +kernel
theorem gX11_give_X11_gives : GoodIn kG (wsV RX11 307 RX11 yX11_gives kwX11_gives) := gK w35_9 (gK w35_10 (gK w35_11 (gK w0_5 (gK w35_12 gGG))))
theorem gX11_give_X11_isBarred : GoodIn kG (wsV RX11 286 RX11 yX11_isBarred kwX11_isBarred) := gK w30_7 (gK w30_8 (gK w30_9 (gK w0_5 (gK w30_10 gGG))))
theorem gX11_give_X11_noMan : GoodIn kG (wsV RX11 280 RX11 yX11_noMan kwX11_noMan) := gK w27_4 (gK w27_5 (gK w27_6 (gK w0_5 (gK w27_7 gGG))))
theorem gX11_give_X11_noShirt : GoodIn kG (wsV RX11 283 RX11 yX11_noShirt kwX11_noShirt) := gK w28_12 (gK w28_13 (gK w28_14 (gK w0_5 (gK w28_15 gGG))))
theorem gX11_give_X11_of : GoodIn kG (wsV RX11 156 RX11 yX11_of kwX11_of) := gK w21_9 (gK w21_10 (gK w21_11 (gK w0_5 (gK w21_12 gGG))))
theorem gX11_give_X11_ofMan : GoodIn kG (wsV RX11 153 RX11 yX11_ofMan kwX11_ofMan) := gK w21_5 (gK w21_6 (gK w21_7 (gK w0_5 (gK w21_8 gGG))))
theorem gX11_give_X11_remembers : GoodIn kG (wsV RX11 298 RX11 yX11_remembers kwX11_remembers) := gK w34_0 (gK w34_1 (gK w34_2 (gK w0_5 (gK w34_3 gGG))))
theorem gX11_give_X11_throwsIf : GoodIn kG (wsV RX11 258 RX11 yX11_throwsIf kwX11_throwsIf) := gK w23_6 (gK w23_7 (gK w23_8 (gK w0_5 (gK w23_9 gGG))))
theorem dX11_give_0 : decode cX11_give 0 = .ok (.aload_n 0, 1) := by decide +kernel
theorem dX11_give_1 : decode cX11_give 1 = .ok (.iconst 0, 1) := by decide +kernel
theorem dX11_give_2 : decode cX11_give 2 = .ok (.putfield 3, 3) := by decide +kernel
theorem dX11_give_5 : decode cX11_give 5 = .ok (.aload_n 0, 1) := by decide +kernel
theorem dX11_give_6 : decode cX11_give 6 = .ok (.aload_n 0, 1) := by decide +kernel
theorem dX11_give_7 : decode cX11_give 7 = .ok (.iload_n 1, 1) := by decide +kernel
theorem dX11_give_8 : decode cX11_give 8 = .ok (.invokevirtual 280, 3) := by decide +kernel
theorem dX11_give_11 : decode cX11_give 11 = .ok (.ifCond .ne 11, 3) := by decide +kernel
theorem dX11_give_14 : decode cX11_give 14 = .ok (.aload_n 0, 1) := by decide +kernel
theorem dX11_give_15 : decode cX11_give 15 = .ok (.iload_n 2, 1) := by decide +kernel
theorem dX11_give_16 : decode cX11_give 16 = .ok (.invokevirtual 283, 3) := by decide +kernel
theorem dX11_give_19 : decode cX11_give 19 = .ok (.ifCond .eq 7, 3) := by decide +kernel
theorem dX11_give_22 : decode cX11_give 22 = .ok (.iconst 1, 1) := by decide +kernel
theorem dX11_give_23 : decode cX11_give 23 = .ok (.goto 4, 3) := by decide +kernel
theorem dX11_give_26 : decode cX11_give 26 = .ok (.iconst 0, 1) := by decide +kernel
theorem dX11_give_27 : decode cX11_give 27 = .ok (.iconst 1, 1) := by decide +kernel
theorem dX11_give_28 : decode cX11_give 28 = .ok (.invokevirtual 258, 3) := by decide +kernel
theorem dX11_give_31 : decode cX11_give 31 = .ok (.ifCond .ne 43, 3) := by decide +kernel
theorem dX11_give_34 : decode cX11_give 34 = .ok (.aload_n 0, 1) := by decide +kernel
theorem dX11_give_35 : decode cX11_give 35 = .ok (.aload_n 0, 1) := by decide +kernel
theorem dX11_give_36 : decode cX11_give 36 = .ok (.iload_n 1, 1) := by decide +kernel
theorem dX11_give_37 : decode cX11_give 37 = .ok (.iconst 4, 1) := by decide +kernel
theorem dX11_give_38 : decode cX11_give 38 = .ok (.invokevirtual 153, 3) := by decide +kernel
theorem dX11_give_41 : decode cX11_give 41 = .ok (.ifCond .ge 21, 3) := by decide +kernel
theorem dX11_give_44 : decode cX11_give 44 = .ok (.aload_n 0, 1) := by decide +kernel
theorem dX11_give_45 : decode cX11_give 45 = .ok (.iload_n 2, 1) := by decide +kernel
theorem dX11_give_46 : decode cX11_give 46 = .ok (.iconst 5, 1) := by decide +kernel
theorem dX11_give_47 : decode cX11_give 47 = .ok (.invokevirtual 156, 3) := by decide +kernel
theorem dX11_give_50 : decode cX11_give 50 = .ok (.ifCond .ge 12, 3) := by decide +kernel
theorem dX11_give_53 : decode cX11_give 53 = .ok (.aload_n 0, 1) := by decide +kernel
theorem dX11_give_54 : decode cX11_give 54 = .ok (.iload_n 1, 1) := by decide +kernel
theorem dX11_give_55 : decode cX11_give 55 = .ok (.iload_n 2, 1) := by decide +kernel
theorem dX11_give_56 : decode cX11_give 56 = .ok (.invokevirtual 286, 3) := by decide +kernel
theorem dX11_give_59 : decode cX11_give 59 = .ok (.ifCond .eq 7, 3) := by decide +kernel
theorem dX11_give_62 : decode cX11_give 62 = .ok (.iconst 1, 1) := by decide +kernel
theorem dX11_give_63 : decode cX11_give 63 = .ok (.goto 4, 3) := by decide +kernel
theorem dX11_give_66 : decode cX11_give 66 = .ok (.iconst 0, 1) := by decide +kernel
theorem dX11_give_67 : decode cX11_give 67 = .ok (.iconst 2, 1) := by decide +kernel
theorem dX11_give_68 : decode cX11_give 68 = .ok (.invokevirtual 258, 3) := by decide +kernel
theorem dX11_give_71 : decode cX11_give 71 = .ok (.ifCond .eq 5, 3) := by decide +kernel
theorem dX11_give_74 : decode cX11_give 74 = .ok (.iconst 0, 1) := by decide +kernel
theorem dX11_give_75 : decode cX11_give 75 = .ok (.ireturn, 1) := by decide +kernel
theorem dX11_give_76 : decode cX11_give 76 = .ok (.aload_n 0, 1) := by decide +kernel
theorem dX11_give_77 : decode cX11_give 77 = .ok (.invokevirtual 298, 3) := by decide +kernel
theorem dX11_give_80 : decode cX11_give 80 = .ok (.aload_n 0, 1) := by decide +kernel
theorem dX11_give_81 : decode cX11_give 81 = .ok (.iload_n 1, 1) := by decide +kernel
theorem dX11_give_82 : decode cX11_give 82 = .ok (.iload_n 2, 1) := by decide +kernel
theorem dX11_give_83 : decode cX11_give 83 = .ok (.invokevirtual 307, 3) := by decide +kernel
theorem dX11_give_86 : decode cX11_give 86 = .ok (.aload_n 0, 1) := by decide +kernel
theorem dX11_give_87 : decode cX11_give 87 = .ok (.iload_n 2, 1) := by decide +kernel
theorem dX11_give_88 : decode cX11_give 88 = .ok (.iconst 2, 1) := by decide +kernel
theorem dX11_give_89 : decode cX11_give 89 = .ok (.invokevirtual 156, 3) := by decide +kernel
theorem dX11_give_92 : decode cX11_give 92 = .ok (.ireturn, 1) := by decide +kernel
set_option maxHeartbeats 4000000 in
set_option maxRecDepth 100000 in
/-- reference: give -/
theorem r_give (l : Launch) (D : va_G) (cI cJ cB cC : ClassId) (h : Nat) (th : Int32) (aw : Nat) (ai : Nat) (ab : Nat) (ac : Nat) (hi : Int32) (re : Int32) (aP : Nat) (ta : Int32) (po : Int32) (en : Int32) (be : Int32) (de : Int32) (fa : Int32) (a5 : Nat) (sp : Int32) (av : Nat) (an : Nat) (ak : Nat) (ne : Int32) (aW : Nat) (aC : Nat) (ag : Nat) (aT : Nat) (aN : Nat) (aF : Nat) (fw : Nat → Int32) (fv : Nat → Int32) (fc : Nat → Int32) (a1 : Int32) (b1 : Int32) (sz : Nat) (H_re : Rg re 0 12) (H_fw_W : wW fw) (H_fw_B : wB fw) (H_fw_L : wL fw) (H_fc_C : wC fc) : Met l yX11_give kwX11_give ({ frames := 6, cells := 0, slots := 0, locals := 144 } : Room) (kPre D (kT cI cJ cB cC) sz [(h, oX11 th aw ai ab ac hi re aP ta po en be de fa a5 sp av an ak ne aW aC ag aT aN aF), (aw, .inl (cI, 2179, .inl fw)), (av, .inl (cI, 400, .inl fv)), (ac, .inl (cI, 6060, .inl fc))] [.ref h, .int a1, .int b1]) (va_Qi (fun (r : Int32) (uu : Int32 × Int32 × (Nat → Int32) × (Nat → Int32) × (Nat → Int32)) => match uu with | (n0_, n1_, f2_, f3_, f4_) => Rg n1_ 0 12 ∧ wB f2_ ∧ wL f2_ ∧ wW f2_ ∧ wC f4_) (fun (uu : Int32 × Int32 × (Nat → Int32) × (Nat → Int32) × (Nat → Int32)) (t : State) => match uu with | (n0_, n1_, f2_, f3_, f4_) => kB D (kT cI cJ cB cC) (va_A [(h, oX11 th aw ai ab ac hi re aP ta po en be de fa a5 sp av an ak ne aW aC ag aT aN aF), (aw, .inl (cI, 2179, .inl fw)), (av, .inl (cI, 400, .inl fv)), (ac, .inl (cI, 6060, .inl fc))] sz) [(h, oX11 n0_ aw ai ab ac hi n1_ aP ta po en be de fa a5 sp av an ak ne aW aC ag aT aN aF), (aw, .inl (cI, 2179, .inl f2_)), (av, .inl (cI, 400, .inl f3_)), (ac, .inl (cI, 6060, .inl f4_))] t) (va_A [(h, oX11 th aw ai ab ac hi re aP ta po en be de fa a5 sp av an ak ne aW aC ag aT aN aF), (aw, .inl (cI, 2179, .inl fw)), (av, .inl (cI, 400, .inl fv)), (ac, .inl (cI, 6060, .inl fc))] sz)) 0 0 (va_A [(h, oX11 th aw ai ab ac hi re aP ta po en be de fa a5 sp av an ak ne aW aC ag aT aN aF), (aw, .inl (cI, 2179, .inl fw)), (av, .inl (cI, 400, .inl fv)), (ac, .inl (cI, 6060, .inl fc))] sz) := by
  refine Met.ofW (cc := cX11_give) (maxL := 3) (ret := (some .int)) (by decide) rfl ?_
  intro p e s m args below meth c s₁ B hml hv
  obtain ⟨rfl, hsz, hN, hE, hP, hK, hD0⟩ := hv
  have hx := B.exec
  have hb := B.bytes
  have hr := B.returns
  have hts := fun (w : Cond) (h : w ∈ kG) => atoms_spec (ws := kwX11_give) B.pre w (List.mem_cons_of_mem _ h)
  have hown : s.vm.findClass RX11 = some m.cls := findClass_of_methodNamed B.named
  subst hsz
  have hD := hD0.self (sz := s.heap.size)
  generalize hAe : va_A [(h, oX11 th aw ai ab ac hi re aP ta po en be de fa a5 sp av an ak ne aW aC ag aT aN aF), (aw, .inl (cI, 2179, .inl fw)), (av, .inl (cI, 400, .inl fv)), (ac, .inl (cI, 6060, .inl fc))] s.heap.size = A at hD hE ⊢
  have hA : ∀ q : Nat, s.heap.size ≤ q → A q := fun q h => by rw [← hAe]; exact Or.inr h
  have hl := lv_entry ([.ref h, .int a1, .int b1]) (n := 3) (Nat.le_of_ble_eq_true rfl)
  rw [lg_entry_eq]
  generalize (lg_sl ([.ref h, .int a1, .int b1]) ++ List.replicate (3 - (lg_sl ([.ref h, .int a1, .int b1])).length) Slot.unset).toArray = ls at hl ⊢
  have hl : lv_has ls 3 [(0, .ref h), (1, .int a1), (2, .int b1)] := hl
  obtain ⟨H, hH0⟩ : ∃ H, H = s.heap := ⟨_, rfl⟩
  have hS : va_S A s.heap H [] := by rw [hH0]; exact va_S.rf
  have hP : va_P D vwCl [(h, oX11 th aw ai ab ac hi re aP ta po en be de fa a5 sp av an ak ne aW aC ag aT aN aF), (aw, .inl (cI, 2179, .inl fw)), (av, .inl (cI, 400, .inl fv)), (ac, .inl (cI, 6060, .inl fc))] H := by rw [hH0]; exact hP
  refine kHeap hH0 ?_
  clear hH0
  refine lv_aload_n hx hb dX11_give_0 rfl (lv_at hl 0 rfl) ?_
  refine lv_iconst (v := 0) hx hb dX11_give_1 (by decide) ?_
  refine va_put (D := D) (ci := 10) (v := .int 0) (ty := .int) (C := RX11) (T := TX11) (N := 26) hx hb hts iG_X11 tyX11 tyX11_ok nmX11 hown hK hP hD hS 0 rfl rfl 0 (by decide) (hts _ w6_8) (fun _ h9 => h9) rfl (by decide +kernel) rfl rfl (Nat.le_of_ble_eq_true rfl) dX11_give_2 (fun H locs hP hD hS => ?_)
  have hP : va_P D vwCl [(h, oX11 0 aw ai ab ac hi re aP ta po en be de fa a5 sp av an ak ne aW aC ag aT aN aF), (aw, .inl (cI, 2179, .inl fw)), (av, .inl (cI, 400, .inl fv)), (ac, .inl (cI, 6060, .inl fc))] H := hP
  have hD : va_D A [(h, oX11 0 aw ai ab ac hi re aP ta po en be de fa a5 sp av an ak ne aW aC ag aT aN aF), (aw, .inl (cI, 2179, .inl fw)), (av, .inl (cI, 400, .inl fv)), (ac, .inl (cI, 6060, .inl fc))] := hD
  refine lv_aload_n hx hb dX11_give_5 rfl (lv_at hl 0 rfl) ?_
  refine lv_aload_n hx hb dX11_give_6 rfl (lv_at hl 0 rfl) ?_
  refine lv_iload_n hx hb dX11_give_7 rfl (lv_at hl 1 rfl) ?_
  refine kpurei (wc := [(h, oX11 0 aw ai ab ac hi re aP ta po en be de fa a5 sp av an ak ne aW aC ag aT aN aF), (aw, .inl (cI, 2179, .inl fw))]) hP hD hS hA [0, 1] rfl (by decide) (fun hPc hDc hFc => va_runV (As := [.int a1]) (rest := [.ref h]) ⟨hx, hb, hml, hown, hts⟩ (r_noMan l D cI cJ cB cC h 0 aw ai ab ac hi re aP ta po en be de fa a5 sp av an ak ne aW aC ag aT aN aF fw a1 H.size H_fw_W) (cwV 1 hts gX11_give_X11_noMan rfl rfl rfl ⟨rfl, hdX11_noMan⟩ ⟨Nat.le_of_ble_eq_true rfl, Nat.le_of_ble_eq_true rfl⟩) ⟨kBlind, va_recv hK hPc (ci := 10) (q0 := 0) rfl rfl, fun U hU hW => ⟨rfl, by rw [hU], hN.warm hW, hE.pass hS hFc hW hU, by rw [hU]; exact hPc, va_K.moved hW.alike hK, hDc⟩⟩ rfl rfl hl.1 rfl (lv_room (Nat.le_of_ble_eq_true rfl)) dX11_give_8 ⟨Nat.le_of_ble_eq_true rfl, Nat.le_of_ble_eq_true rfl⟩) (fun r1 u H locs hw hP hS => ?_)
  rcases hw with ⟨rfl, kc2_0, kc2_1⟩ | rfl
  · skip
    refine lv_if_ne (tgt := 22) hx hb dX11_give_11 (by decide) (fun c8 => absurd (by decide) c8) (fun _ => ?_)
    refine lv_aload_n hx hb dX11_give_14 rfl (lv_at hl 0 rfl) ?_
    refine lv_iload_n hx hb dX11_give_15 rfl (lv_at hl 2 rfl) ?_
    refine kpurei (wc := [(h, oX11 0 aw ai ab ac hi re aP ta po en be de fa a5 sp av an ak ne aW aC ag aT aN aF), (aw, .inl (cI, 2179, .inl fw))]) hP hD hS hA [0, 1] rfl (by decide) (fun hPc hDc hFc => va_runV (As := [.int b1]) (rest := [.ref h]) ⟨hx, hb, hml, hown, hts⟩ (r_noShirt l D cI cJ cB cC h 0 aw ai ab ac hi re aP ta po en be de fa a5 sp av an ak ne aW aC ag aT aN aF fw b1 H.size H_fw_W) (cwV 1 hts gX11_give_X11_noShirt rfl rfl rfl ⟨rfl, hdX11_noShirt⟩ ⟨Nat.le_of_ble_eq_true rfl, Nat.le_of_ble_eq_true rfl⟩) ⟨kBlind, va_recv hK hPc (ci := 10) (q0 := 0) rfl rfl, fun U hU hW => ⟨rfl, by rw [hU], hN.warm hW, hE.pass hS hFc hW hU, by rw [hU]; exact hPc, va_K.moved hW.alike hK, hDc⟩⟩ rfl rfl hl.1 rfl (lv_room (Nat.le_of_ble_eq_true rfl)) dX11_give_16 ⟨Nat.le_of_ble_eq_true rfl, Nat.le_of_ble_eq_true rfl⟩) (fun r9 u H locs hw hP hS => ?_)
    rcases hw with ⟨rfl, kc10_0, kc10_1⟩ | rfl
    · skip
      refine lv_if_eq (tgt := 26) hx hb dX11_give_19 (by decide) (fun _ => ?_) (fun c11 => absurd (by decide) c11)
      refine lv_iconst (v := 0) hx hb dX11_give_26 (by decide) ?_
      refine lv_iconst (v := 1) hx hb dX11_give_27 (by decide) ?_
      refine kpurei (wc := [(h, oX11 0 aw ai ab ac hi re aP ta po en be de fa a5 sp av an ak ne aW aC ag aT aN aF)]) hP hD hS hA [0] rfl (by decide) (fun hPc hDc hFc => va_runV (As := [.int 0, .int 1]) (rest := []) ⟨hx, hb, hml, hown, hts⟩ (r_throwsIf0_1 l D cI cJ cB cC h 0 aw ai ab ac hi re aP ta po en be de fa a5 sp av an ak ne aW aC ag aT aN aF 1 H.size) (cwV 2 hts gX11_give_X11_throwsIf rfl rfl rfl ⟨rfl, hdX11_throwsIf⟩ ⟨Nat.le_of_ble_eq_true rfl, Nat.le_of_ble_eq_true rfl⟩) ⟨kBlind, va_recv hK hPc (ci := 10) (q0 := 0) rfl rfl, fun U hU hW => ⟨rfl, by rw [hU], hN.warm hW, hE.pass hS hFc hW hU, by rw [hU]; exact hPc, va_K.moved hW.alike hK, hDc⟩⟩ rfl rfl hl.1 rfl (lv_room (Nat.le_of_ble_eq_true rfl)) dX11_give_28 ⟨Nat.le_of_ble_eq_true rfl, Nat.le_of_ble_eq_true rfl⟩) (fun r12 u H locs hw hP hS => ?_)
      have k13 := hw
      refine lv_if_ne (tgt := 74) hx hb dX11_give_31 (by decide) (fun c51 => absurd (rg_eq k13 (rg_lit (n := 0) (by decide)) (by decide)) c51) (fun _ => ?_)
      refine lv_aload_n hx hb dX11_give_34 rfl (lv_at hl 0 rfl) ?_
      refine lv_aload_n hx hb dX11_give_35 rfl (lv_at hl 0 rfl) ?_
      refine lv_iload_n hx hb dX11_give_36 rfl (lv_at hl 1 rfl) ?_
      refine lv_iconst (v := 4) hx hb dX11_give_37 (by decide) ?_
      refine kpurei (wc := [(h, oX11 0 aw ai ab ac hi re aP ta po en be de fa a5 sp av an ak ne aW aC ag aT aN aF), (aw, .inl (cI, 2179, .inl fw))]) hP hD hS hA [0, 1] rfl (by decide) (fun hPc hDc hFc => va_runV (As := [.int a1, .int 4]) (rest := [.ref h]) ⟨hx, hb, hml, hown, hts⟩ (r_ofMan4 l D cI cJ cB cC h 0 aw ai ab ac hi re aP ta po en be de fa a5 sp av an ak ne aW aC ag aT aN aF fw a1 H.size kc2_0 H_fw_W) (cwV 2 hts gX11_give_X11_ofMan rfl rfl rfl ⟨rfl, hdX11_ofMan⟩ ⟨Nat.le_of_ble_eq_true rfl, Nat.le_of_ble_eq_true rfl⟩) ⟨kBlind, va_recv hK hPc (ci := 10) (q0 := 0) rfl rfl, fun U hU hW => ⟨rfl, by rw [hU], hN.warm hW, hE.pass hS hFc hW hU, by rw [hU]; exact hPc, va_K.moved hW.alike hK, hDc⟩⟩ rfl rfl hl.1 rfl (lv_room (Nat.le_of_ble_eq_true rfl)) dX11_give_38 ⟨Nat.le_of_ble_eq_true rfl, Nat.le_of_ble_eq_true rfl⟩) (fun r52 u H locs hw hP hS => ?_)
      obtain ⟨k53, k54⟩ := hw
      refine k_join (hd := 62) (cells2 := 0) (slots2 := 0) (fun (g71 : (Nat → Int32)) => [.ref h]) (fun (g71 : (Nat → Int32)) (H : Heap) (locs : List Loc) (ls : Array Slot) => va_P D vwCl [(h, oX11 0 aw ai ab ac hi re aP ta po en be de fa a5 sp av an ak ne aW aC ag aT aN aF), (aw, .inl (cI, 2179, .inl fw)), (av, .inl (cI, 400, .inl g71)), (ac, .inl (cI, 6060, .inl fc))] H ∧ va_D A [(h, oX11 0 aw ai ab ac hi re aP ta po en be de fa a5 sp av an ak ne aW aC ag aT aN aF), (aw, .inl (cI, 2179, .inl fw)), (av, .inl (cI, 400, .inl g71)), (ac, .inl (cI, 6060, .inl fc))] ∧ va_S A s.heap H locs ∧ lv_has ls 3 [(0, .ref h), (1, .int a1), (2, .int b1)]) (fun u H locs ls hI => ?_) (fun hJ62 => ?_)
      · skip
        clear hP hD hS hl
        obtain ⟨g71, rfl⟩ : ∃ z, z = u := ⟨_, rfl⟩
        obtain ⟨hP, hD, hS, hl⟩ := hI
        have hP : va_P D vwCl [(h, oX11 0 aw ai ab ac hi re aP ta po en be de fa a5 sp av an ak ne aW aC ag aT aN aF), (aw, .inl (cI, 2179, .inl fw)), (av, .inl (cI, 400, .inl g71)), (ac, .inl (cI, 6060, .inl fc))] H := hP
        have hD : va_D A [(h, oX11 0 aw ai ab ac hi re aP ta po en be de fa a5 sp av an ak ne aW aC ag aT aN aF), (aw, .inl (cI, 2179, .inl fw)), (av, .inl (cI, 400, .inl g71)), (ac, .inl (cI, 6060, .inl fc))] := hD
        have hl : lv_has ls 3 [(0, .ref h), (1, .int a1), (2, .int b1)] := hl
        show W _ _ _ _ _ _ _ _ _ _ _ _ _ _ _ (F0 m 62 ls [.ref h])
        refine lv_iconst (v := 1) hx hb dX11_give_62 (by decide) ?_
        refine lv_goto (tgt := 67) hx hb dX11_give_63 (by decide) ?_
        refine lv_iconst (v := 2) hx hb dX11_give_67 (by decide) ?_
        refine kcalli (wc := [(h, oX11 0 aw ai ab ac hi re aP ta po en be de fa a5 sp av an ak ne aW aC ag aT aN aF)]) (wr := [(aw, .inl (cI, 2179, .inl fw)), (av, .inl (cI, 400, .inl g71)), (ac, .inl (cI, 6060, .inl fc))]) hP hD hS hA [0] [1, 2, 3] rfl rfl (by decide) (by decide) (by decide) (fun hPc hDc hFc => va_runV (As := [.int 1, .int 2]) (rest := []) ⟨hx, hb, hml, hown, hts⟩ (r_throwsIf1_1 l D cI cJ cB cC h 0 aw ai ab ac hi re aP ta po en be de fa a5 sp av an ak ne aW aC ag aT aN aF 2 H.size) (cwV 2 hts gX11_give_X11_throwsIf rfl rfl rfl ⟨rfl, hdX11_throwsIf⟩ ⟨Nat.le_of_ble_eq_true rfl, Nat.le_of_ble_eq_true rfl⟩) ⟨kBlind, va_recv hK hPc (ci := 10) (q0 := 0) rfl rfl, fun U hU hW => ⟨rfl, by rw [hU], hN.warm hW, hE.pass hS hFc hW hU, by rw [hU]; exact hPc, va_K.moved hW.alike hK, hDc⟩⟩ rfl rfl hl.1 rfl (lv_room (Nat.le_of_ble_eq_true rfl)) dX11_give_68 ⟨Nat.le_of_ble_eq_true rfl, Nat.le_of_ble_eq_true rfl⟩) (fun r72 u H locs hw hP hD hS => ?_)
        obtain ⟨x73, rfl⟩ : ∃ z, z = u := ⟨_, rfl⟩
        have hP : va_P D vwCl [(aw, .inl (cI, 2179, .inl fw)), (av, .inl (cI, 400, .inl g71)), (ac, .inl (cI, 6060, .inl fc)), (h, oX11 x73 aw ai ab ac hi re aP ta po en be de fa a5 sp av an ak ne aW aC ag aT aN aF)] H := hP
        have hD : va_D A [(aw, .inl (cI, 2179, .inl fw)), (av, .inl (cI, 400, .inl g71)), (ac, .inl (cI, 6060, .inl fc)), (h, oX11 x73 aw ai ab ac hi re aP ta po en be de fa a5 sp av an ak ne aW aC ag aT aN aF)] := hD
        have k74 := hw
        refine lv_if_eq (tgt := 76) hx hb dX11_give_71 (by decide) (fun c75 => absurd c75 (rg_neq k74 (rg_lit (n := 0) (by decide)) (by decide))) (fun _ => ?_)
        refine lv_iconst (v := 0) hx hb dX11_give_74 (by decide) ?_
        have hP9 := hP.sub (ws' := [(h, oX11 x73 aw ai ab ac hi re aP ta po en be de fa a5 sp av an ak ne aW aC ag aT aN aF), (aw, .inl (cI, 2179, .inl fw)), (av, .inl (cI, 400, .inl g71)), (ac, .inl (cI, 6060, .inl fc))]) [3, 0, 1, 2] rfl
        have hD9 := hD.sub (ws' := [(h, oX11 x73 aw ai ab ac hi re aP ta po en be de fa a5 sp av an ak ne aW aC ag aT aN aF), (aw, .inl (cI, 2179, .inl fw)), (av, .inl (cI, 400, .inl g71)), (ac, .inl (cI, 6060, .inl fc))]) [3, 0, 1, 2] (by decide) rfl
        exact W.iret (v := 0) hx hb hr (fun t ht hW => ⟨⟨0, (x73, re, fw, g71, fc), rfl, ⟨H_re, H_fw_B, H_fw_L, H_fw_W, H_fc_C⟩, by rw [ht]; exact hP9, va_K.moved hW.alike hK, hD9⟩, hS.F ht⟩) hS.2.2 dX11_give_75
      refine lv_if_ge (tgt := 62) hx hb dX11_give_41 (by decide) (fun c76 => ?_) (fun c76 => ?_)
      · skip
        have k77 : Rg r52 0 11 := rg_e2 (leI c76) (rg_lit (n := 0) (by decide)) k54 (by decide)
        exact hJ62 (fv) _ _ _ ⟨hP.sub (ws' := [(h, oX11 0 aw ai ab ac hi re aP ta po en be de fa a5 sp av an ak ne aW aC ag aT aN aF), (aw, .inl (cI, 2179, .inl fw)), (av, .inl (cI, 400, .inl fv)), (ac, .inl (cI, 6060, .inl fc))]) [0, 1, 2, 3] rfl, hD.sub (ws' := [(h, oX11 0 aw ai ab ac hi re aP ta po en be de fa a5 sp av an ak ne aW aC ag aT aN aF), (aw, .inl (cI, 2179, .inl fw)), (av, .inl (cI, 400, .inl fv)), (ac, .inl (cI, 6060, .inl fc))]) [0, 1, 2, 3] (by decide) rfl, hS, lv_sub (l' := [(0, .ref h), (1, .int a1), (2, .int b1)]) hl [0, 1, 2] rfl⟩
      · skip
        have k78 : Rg r52 (-1) (-1) := rg_l1 (nleI c76) k54 (rg_lit (n := 0) (by decide)) (by decide)
        refine lv_aload_n hx hb dX11_give_44 rfl (lv_at hl 0 rfl) ?_
        refine lv_iload_n hx hb dX11_give_45 rfl (lv_at hl 2 rfl) ?_
        refine lv_iconst (v := 5) hx hb dX11_give_46 (by decide) ?_
        refine kpurei (wc := [(h, oX11 0 aw ai ab ac hi re aP ta po en be de fa a5 sp av an ak ne aW aC ag aT aN aF), (aw, .inl (cI, 2179, .inl fw))]) hP hD hS hA [0, 1] rfl (by decide) (fun hPc hDc hFc => va_runV (As := [.int b1, .int 5]) (rest := [.ref h]) ⟨hx, hb, hml, hown, hts⟩ (r_of5 l D cI cJ cB cC h 0 aw ai ab ac hi re aP ta po en be de fa a5 sp av an ak ne aW aC ag aT aN aF fw b1 H.size kc10_0 H_fw_W) (cwV 2 hts gX11_give_X11_of rfl rfl rfl ⟨rfl, hdX11_of⟩ ⟨Nat.le_of_ble_eq_true rfl, Nat.le_of_ble_eq_true rfl⟩) ⟨kBlind, va_recv hK hPc (ci := 10) (q0 := 0) rfl rfl, fun U hU hW => ⟨rfl, by rw [hU], hN.warm hW, hE.pass hS hFc hW hU, by rw [hU]; exact hPc, va_K.moved hW.alike hK, hDc⟩⟩ rfl rfl hl.1 rfl (lv_room (Nat.le_of_ble_eq_true rfl)) dX11_give_47 ⟨Nat.le_of_ble_eq_true rfl, Nat.le_of_ble_eq_true rfl⟩) (fun r79 u H locs hw hP hS => ?_)
        obtain ⟨k80, k81⟩ := hw
        refine lv_if_ge (tgt := 62) hx hb dX11_give_50 (by decide) (fun c82 => ?_) (fun c82 => ?_)
        · skip
          have k83 : Rg r79 0 9 := rg_e2 (leI c82) (rg_lit (n := 0) (by decide)) k81 (by decide)
          exact hJ62 (fv) _ _ _ ⟨hP.sub (ws' := [(h, oX11 0 aw ai ab ac hi re aP ta po en be de fa a5 sp av an ak ne aW aC ag aT aN aF), (aw, .inl (cI, 2179, .inl fw)), (av, .inl (cI, 400, .inl fv)), (ac, .inl (cI, 6060, .inl fc))]) [0, 1, 2, 3] rfl, hD.sub (ws' := [(h, oX11 0 aw ai ab ac hi re aP ta po en be de fa a5 sp av an ak ne aW aC ag aT aN aF), (aw, .inl (cI, 2179, .inl fw)), (av, .inl (cI, 400, .inl fv)), (ac, .inl (cI, 6060, .inl fc))]) [0, 1, 2, 3] (by decide) rfl, hS, lv_sub (l' := [(0, .ref h), (1, .int a1), (2, .int b1)]) hl [0, 1, 2] rfl⟩
        · skip
          have k84 : Rg r79 (-1) (-1) := rg_l1 (nleI c82) k81 (rg_lit (n := 0) (by decide)) (by decide)
          refine lv_aload_n hx hb dX11_give_53 rfl (lv_at hl 0 rfl) ?_
          refine lv_iload_n hx hb dX11_give_54 rfl (lv_at hl 1 rfl) ?_
          refine lv_iload_n hx hb dX11_give_55 rfl (lv_at hl 2 rfl) ?_
          refine kcalli (wc := [(h, oX11 0 aw ai ab ac hi re aP ta po en be de fa a5 sp av an ak ne aW aC ag aT aN aF), (aw, .inl (cI, 2179, .inl fw)), (av, .inl (cI, 400, .inl fv))]) (wr := [(ac, .inl (cI, 6060, .inl fc))]) hP hD hS hA [0, 1, 2] [3] rfl rfl (by decide) (by decide) (by decide) (fun hPc hDc hFc => va_runV (As := [.int a1, .int b1]) (rest := [.ref h]) ⟨hx, hb, hml, hown, hts⟩ (r_isBarred l D cI cJ cB cC h 0 aw ai ab ac hi re aP ta po en be de fa a5 sp av an ak ne aW aC ag aT aN aF fw fv a1 b1 H.size kc2_0 kc10_0 H_fw_W H_fw_L) (cwV 2 hts gX11_give_X11_isBarred rfl rfl rfl ⟨rfl, hdX11_isBarred⟩ ⟨Nat.le_of_ble_eq_true rfl, Nat.le_of_ble_eq_true rfl⟩) ⟨kBlind, va_recv hK hPc (ci := 10) (q0 := 0) rfl rfl, fun U hU hW => ⟨rfl, by rw [hU], hN.warm hW, hE.pass hS hFc hW hU, by rw [hU]; exact hPc, va_K.moved hW.alike hK, hDc⟩⟩ rfl rfl hl.1 rfl (lv_room (Nat.le_of_ble_eq_true rfl)) dX11_give_56 ⟨Nat.le_of_ble_eq_true rfl, Nat.le_of_ble_eq_true rfl⟩) (fun r85 u H locs hw hP hD hS => ?_)
          obtain ⟨g86, rfl⟩ : ∃ z, z = u := ⟨_, rfl⟩
          have hP : va_P D vwCl [(ac, .inl (cI, 6060, .inl fc)), (h, oX11 0 aw ai ab ac hi re aP ta po en be de fa a5 sp av an ak ne aW aC ag aT aN aF), (aw, .inl (cI, 2179, .inl fw)), (av, .inl (cI, 400, .inl g86))] H := hP
          have hD : va_D A [(ac, .inl (cI, 6060, .inl fc)), (h, oX11 0 aw ai ab ac hi re aP ta po en be de fa a5 sp av an ak ne aW aC ag aT aN aF), (aw, .inl (cI, 2179, .inl fw)), (av, .inl (cI, 400, .inl g86))] := hD
          have k87 := hw
          refine lv_if_eq (tgt := 66) hx hb dX11_give_59 (by decide) (fun c88 => ?_) (fun c88 => ?_)
          · skip
            have k89 : Rg r85 0 0 := rg_q1 (eqI c88) k87 (rg_lit (n := 0) (by decide)) (by decide)
            refine lv_iconst (v := 0) hx hb dX11_give_66 (by decide) ?_
            refine lv_iconst (v := 2) hx hb dX11_give_67 (by decide) ?_
            refine kpurei (wc := [(h, oX11 0 aw ai ab ac hi re aP ta po en be de fa a5 sp av an ak ne aW aC ag aT aN aF)]) hP hD hS hA [1] rfl (by decide) (fun hPc hDc hFc => va_runV (As := [.int 0, .int 2]) (rest := []) ⟨hx, hb, hml, hown, hts⟩ (r_throwsIf0_1 l D cI cJ cB cC h 0 aw ai ab ac hi re aP ta po en be de fa a5 sp av an ak ne aW aC ag aT aN aF 2 H.size) (cwV 2 hts gX11_give_X11_throwsIf rfl rfl rfl ⟨rfl, hdX11_throwsIf⟩ ⟨Nat.le_of_ble_eq_true rfl, Nat.le_of_ble_eq_true rfl⟩) ⟨kBlind, va_recv hK hPc (ci := 10) (q0 := 0) rfl rfl, fun U hU hW => ⟨rfl, by rw [hU], hN.warm hW, hE.pass hS hFc hW hU, by rw [hU]; exact hPc, va_K.moved hW.alike hK, hDc⟩⟩ rfl rfl hl.1 rfl (lv_room (Nat.le_of_ble_eq_true rfl)) dX11_give_68 ⟨Nat.le_of_ble_eq_true rfl, Nat.le_of_ble_eq_true rfl⟩) (fun r90 u H locs hw hP hS => ?_)
            have k91 := hw
            refine lv_if_eq (tgt := 76) hx hb dX11_give_71 (by decide) (fun _ => ?_) (fun c92 => absurd (rg_eq k91 (rg_lit (n := 0) (by decide)) (by decide)) c92)
            refine lv_aload_n hx hb dX11_give_76 rfl (lv_at hl 0 rfl) ?_
            refine kcallv (wc := [(h, oX11 0 aw ai ab ac hi re aP ta po en be de fa a5 sp av an ak ne aW aC ag aT aN aF), (aw, .inl (cI, 2179, .inl fw)), (ac, .inl (cI, 6060, .inl fc))]) (wr := [(av, .inl (cI, 400, .inl g86))]) hP hD hS hA [1, 2, 0] [3] rfl rfl (by decide) (by decide) (by decide) (fun hPc hDc hFc => va_runV (As := []) (rest := []) ⟨hx, hb, hml, hown, hts⟩ (r_remembers l D cI cJ cB cC h 0 aw ai ab ac hi re aP ta po en be de fa a5 sp av an ak ne aW aC ag aT aN aF fw fc H.size H_re H_fw_W H_fw_B H_fw_L H_fc_C) (cwV 0 hts gX11_give_X11_remembers rfl rfl rfl ⟨rfl, hdX11_remembers⟩ ⟨Nat.le_of_ble_eq_true rfl, Nat.le_of_ble_eq_true rfl⟩) ⟨kBlind, va_recv hK hPc (ci := 10) (q0 := 0) rfl rfl, fun U hU hW => ⟨rfl, by rw [hU], hN.warm hW, hE.pass hS hFc hW hU, by rw [hU]; exact hPc, va_K.moved hW.alike hK, hDc⟩⟩ rfl rfl hl.1 rfl (lv_room (Nat.le_of_ble_eq_true rfl)) dX11_give_77 ⟨Nat.le_of_ble_eq_true rfl, Nat.le_of_ble_eq_true rfl⟩) (fun u H locs hw hP hD hS => ?_)
            obtain ⟨x93, g94⟩ := u
            have hP : va_P D vwCl [(av, .inl (cI, 400, .inl g86)), (h, oX11 0 aw ai ab ac hi x93 aP ta po en be de fa a5 sp av an ak ne aW aC ag aT aN aF), (aw, .inl (cI, 2179, .inl fw)), (ac, .inl (cI, 6060, .inl g94))] H := hP
            have hD : va_D A [(av, .inl (cI, 400, .inl g86)), (h, oX11 0 aw ai ab ac hi x93 aP ta po en be de fa a5 sp av an ak ne aW aC ag aT aN aF), (aw, .inl (cI, 2179, .inl fw)), (ac, .inl (cI, 6060, .inl g94))] := hD
            obtain ⟨k95, k96⟩ := hw
            refine lv_aload_n hx hb dX11_give_80 rfl (lv_at hl 0 rfl) ?_
            refine lv_iload_n hx hb dX11_give_81 rfl (lv_at hl 1 rfl) ?_
            refine lv_iload_n hx hb dX11_give_82 rfl (lv_at hl 2 rfl) ?_
            refine kcallv (wc := [(h, oX11 0 aw ai ab ac hi x93 aP ta po en be de fa a5 sp av an ak ne aW aC ag aT aN aF), (aw, .inl (cI, 2179, .inl fw))]) (wr := [(av, .inl (cI, 400, .inl g86)), (ac, .inl (cI, 6060, .inl g94))]) hP hD hS hA [1, 2] [0, 3] rfl rfl (by decide) (by decide) (by decide) (fun hPc hDc hFc => va_runV (As := [.int a1, .int b1]) (rest := []) ⟨hx, hb, hml, hown, hts⟩ (r_gives l D cI cJ cB cC h 0 aw ai ab ac hi x93 aP ta po en be de fa a5 sp av an ak ne aW aC ag aT aN aF fw a1 b1 H.size kc2_0 kc10_0 H_fw_W H_fw_B H_fw_L) (cwV 2 hts gX11_give_X11_gives rfl rfl rfl ⟨rfl, hdX11_gives⟩ ⟨Nat.le_of_ble_eq_true rfl, Nat.le_of_ble_eq_true rfl⟩) ⟨kBlind, va_recv hK hPc (ci := 10) (q0 := 0) rfl rfl, fun U hU hW => ⟨rfl, by rw [hU], hN.warm hW, hE.pass hS hFc hW hU, by rw [hU]; exact hPc, va_K.moved hW.alike hK, hDc⟩⟩ rfl rfl hl.1 rfl (lv_room (Nat.le_of_ble_eq_true rfl)) dX11_give_83 ⟨Nat.le_of_ble_eq_true rfl, Nat.le_of_ble_eq_true rfl⟩) (fun u H locs hw hP hD hS => ?_)
            obtain ⟨g97, rfl⟩ : ∃ z, z = u := ⟨_, rfl⟩
            have hP : va_P D vwCl [(av, .inl (cI, 400, .inl g86)), (ac, .inl (cI, 6060, .inl g94)), (h, oX11 0 aw ai ab ac hi x93 aP ta po en be de fa a5 sp av an ak ne aW aC ag aT aN aF), (aw, .inl (cI, 2179, .inl g97))] H := hP
            have hD : va_D A [(av, .inl (cI, 400, .inl g86)), (ac, .inl (cI, 6060, .inl g94)), (h, oX11 0 aw ai ab ac hi x93 aP ta po en be de fa a5 sp av an ak ne aW aC ag aT aN aF), (aw, .inl (cI, 2179, .inl g97))] := hD
            obtain ⟨k98, k99, k100⟩ := hw
            refine lv_aload_n hx hb dX11_give_86 rfl (lv_at hl 0 rfl) ?_
            refine lv_iload_n hx hb dX11_give_87 rfl (lv_at hl 2 rfl) ?_
            refine lv_iconst (v := 2) hx hb dX11_give_88 (by decide) ?_
            refine kpurei (wc := [(h, oX11 0 aw ai ab ac hi x93 aP ta po en be de fa a5 sp av an ak ne aW aC ag aT aN aF), (aw, .inl (cI, 2179, .inl g97))]) hP hD hS hA [2, 3] rfl (by decide) (fun hPc hDc hFc => va_runV (As := [.int b1, .int 2]) (rest := []) ⟨hx, hb, hml, hown, hts⟩ (r_of2 l D cI cJ cB cC h 0 aw ai ab ac hi x93 aP ta po en be de fa a5 sp av an ak ne aW aC ag aT aN aF g97 b1 H.size kc10_0 k100) (cwV 2 hts gX11_give_X11_of rfl rfl rfl ⟨rfl, hdX11_of⟩ ⟨Nat.le_of_ble_eq_true rfl, Nat.le_of_ble_eq_true rfl⟩) ⟨kBlind, va_recv hK hPc (ci := 10) (q0 := 0) rfl rfl, fun U hU hW => ⟨rfl, by rw [hU], hN.warm hW, hE.pass hS hFc hW hU, by rw [hU]; exact hPc, va_K.moved hW.alike hK, hDc⟩⟩ rfl rfl hl.1 rfl (lv_room (Nat.le_of_ble_eq_true rfl)) dX11_give_89 ⟨Nat.le_of_ble_eq_true rfl, Nat.le_of_ble_eq_true rfl⟩) (fun r101 u H locs hw hP hS => ?_)
            have k102 := hw
            have hP9 := hP.sub (ws' := [(h, oX11 0 aw ai ab ac hi x93 aP ta po en be de fa a5 sp av an ak ne aW aC ag aT aN aF), (aw, .inl (cI, 2179, .inl g97)), (av, .inl (cI, 400, .inl g86)), (ac, .inl (cI, 6060, .inl g94))]) [2, 3, 0, 1] rfl
            have hD9 := hD.sub (ws' := [(h, oX11 0 aw ai ab ac hi x93 aP ta po en be de fa a5 sp av an ak ne aW aC ag aT aN aF), (aw, .inl (cI, 2179, .inl g97)), (av, .inl (cI, 400, .inl g86)), (ac, .inl (cI, 6060, .inl g94))]) [2, 3, 0, 1] (by decide) rfl
            exact W.iret (v := r101) hx hb hr (fun t ht hW => ⟨⟨r101, ((0 : Int32), x93, g97, g86, g94), rfl, ⟨(rg_w k95 (by decide)), k98, k99, k100, k96⟩, by rw [ht]; exact hP9, va_K.moved hW.alike hK, hD9⟩, hS.F ht⟩) hS.2.2 dX11_give_92
          · skip
            have k103 : Rg r85 1 1 := rg_n1 (neI c88) k87 (rg_lit (n := 0) (by decide)) (by decide)
            exact hJ62 (g86) _ _ _ ⟨hP.sub (ws' := [(h, oX11 0 aw ai ab ac hi re aP ta po en be de fa a5 sp av an ak ne aW aC ag aT aN aF), (aw, .inl (cI, 2179, .inl fw)), (av, .inl (cI, 400, .inl g86)), (ac, .inl (cI, 6060, .inl fc))]) [1, 2, 3, 0] rfl, hD.sub (ws' := [(h, oX11 0 aw ai ab ac hi re aP ta po en be de fa a5 sp av an ak ne aW aC ag aT aN aF), (aw, .inl (cI, 2179, .inl fw)), (av, .inl (cI, 400, .inl g86)), (ac, .inl (cI, 6060, .inl fc))]) [1, 2, 3, 0] (by decide) rfl, hS, lv_sub (l' := [(0, .ref h), (1, .int a1), (2, .int b1)]) hl [0, 1, 2] rfl⟩
    · skip
      refine lv_if_eq (tgt := 26) hx hb dX11_give_19 (by decide) (fun c104 => absurd c104 (by decide)) (fun _ => ?_)
      refine lv_iconst (v := 1) hx hb dX11_give_22 (by decide) ?_
      refine lv_goto (tgt := 27) hx hb dX11_give_23 (by decide) ?_
      refine lv_iconst (v := 1) hx hb dX11_give_27 (by decide) ?_
      refine kcalli (wc := [(h, oX11 0 aw ai ab ac hi re aP ta po en be de fa a5 sp av an ak ne aW aC ag aT aN aF)]) (wr := [(aw, .inl (cI, 2179, .inl fw)), (av, .inl (cI, 400, .inl fv)), (ac, .inl (cI, 6060, .inl fc))]) hP hD hS hA [0] [1, 2, 3] rfl rfl (by decide) (by decide) (by decide) (fun hPc hDc hFc => va_runV (As := [.int 1, .int 1]) (rest := []) ⟨hx, hb, hml, hown, hts⟩ (r_throwsIf1_1 l D cI cJ cB cC h 0 aw ai ab ac hi re aP ta po en be de fa a5 sp av an ak ne aW aC ag aT aN aF 1 H.size) (cwV 2 hts gX11_give_X11_throwsIf rfl rfl rfl ⟨rfl, hdX11_throwsIf⟩ ⟨Nat.le_of_ble_eq_true rfl, Nat.le_of_ble_eq_true rfl⟩) ⟨kBlind, va_recv hK hPc (ci := 10) (q0 := 0) rfl rfl, fun U hU hW => ⟨rfl, by rw [hU], hN.warm hW, hE.pass hS hFc hW hU, by rw [hU]; exact hPc, va_K.moved hW.alike hK, hDc⟩⟩ rfl rfl hl.1 rfl (lv_room (Nat.le_of_ble_eq_true rfl)) dX11_give_28 ⟨Nat.le_of_ble_eq_true rfl, Nat.le_of_ble_eq_true rfl⟩) (fun r105 u H locs hw hP hD hS => ?_)
      obtain ⟨x106, rfl⟩ : ∃ z, z = u := ⟨_, rfl⟩
      have hP : va_P D vwCl [(aw, .inl (cI, 2179, .inl fw)), (av, .inl (cI, 400, .inl fv)), (ac, .inl (cI, 6060, .inl fc)), (h, oX11 x106 aw ai ab ac hi re aP ta po en be de fa a5 sp av an ak ne aW aC ag aT aN aF)] H := hP
      have hD : va_D A [(aw, .inl (cI, 2179, .inl fw)), (av, .inl (cI, 400, .inl fv)), (ac, .inl (cI, 6060, .inl fc)), (h, oX11 x106 aw ai ab ac hi re aP ta po en be de fa a5 sp av an ak ne aW aC ag aT aN aF)] := hD
      have k107 := hw
      refine lv_if_ne (tgt := 74) hx hb dX11_give_31 (by decide) (fun _ => ?_) (fun c109 => absurd c109 (rg_neq k107 (rg_lit (n := 0) (by decide)) (by decide)))
      refine lv_iconst (v := 0) hx hb dX11_give_74 (by decide) ?_
      have hP9 := hP.sub (ws' := [(h, oX11 x106 aw ai ab ac hi re aP ta po en be de fa a5 sp av an ak ne aW aC ag aT aN aF), (aw, .inl (cI, 2179, .inl fw)), (av, .inl (cI, 400, .inl fv)), (ac, .inl (cI, 6060, .inl fc))]) [3, 0, 1, 2] rfl
      have hD9 := hD.sub (ws' := [(h, oX11 x106 aw ai ab ac hi re aP ta po en be de fa a5 sp av an ak ne aW aC ag aT aN aF), (aw, .inl (cI, 2179, .inl fw)), (av, .inl (cI, 400, .inl fv)), (ac, .inl (cI, 6060, .inl fc))]) [3, 0, 1, 2] (by decide) rfl
      exact W.iret (v := 0) hx hb hr (fun t ht hW => ⟨⟨0, (x106, re, fw, fv, fc), rfl, ⟨H_re, H_fw_B, H_fw_L, H_fw_W, H_fc_C⟩, by rw [ht]; exact hP9, va_K.moved hW.alike hK, hD9⟩, hS.F ht⟩) hS.2.2 dX11_give_75
  · skip
    refine lv_if_ne (tgt := 22) hx hb dX11_give_11 (by decide) (fun _ => ?_) (fun c111 => absurd c111 (by decide))
    refine lv_iconst (v := 1) hx hb dX11_give_22 (by decide) ?_
    refine lv_goto (tgt := 27) hx hb dX11_give_23 (by decide) ?_
    refine lv_iconst (v := 1) hx hb dX11_give_27 (by decide) ?_
    refine kcalli (wc := [(h, oX11 0 aw ai ab ac hi re aP ta po en be de fa a5 sp av an ak ne aW aC ag aT aN aF)]) (wr := [(aw, .inl (cI, 2179, .inl fw)), (av, .inl (cI, 400, .inl fv)), (ac, .inl (cI, 6060, .inl fc))]) hP hD hS hA [0] [1, 2, 3] rfl rfl (by decide) (by decide) (by decide) (fun hPc hDc hFc => va_runV (As := [.int 1, .int 1]) (rest := []) ⟨hx, hb, hml, hown, hts⟩ (r_throwsIf1_1 l D cI cJ cB cC h 0 aw ai ab ac hi re aP ta po en be de fa a5 sp av an ak ne aW aC ag aT aN aF 1 H.size) (cwV 2 hts gX11_give_X11_throwsIf rfl rfl rfl ⟨rfl, hdX11_throwsIf⟩ ⟨Nat.le_of_ble_eq_true rfl, Nat.le_of_ble_eq_true rfl⟩) ⟨kBlind, va_recv hK hPc (ci := 10) (q0 := 0) rfl rfl, fun U hU hW => ⟨rfl, by rw [hU], hN.warm hW, hE.pass hS hFc hW hU, by rw [hU]; exact hPc, va_K.moved hW.alike hK, hDc⟩⟩ rfl rfl hl.1 rfl (lv_room (Nat.le_of_ble_eq_true rfl)) dX11_give_28 ⟨Nat.le_of_ble_eq_true rfl, Nat.le_of_ble_eq_true rfl⟩) (fun r112 u H locs hw hP hD hS => ?_)
    obtain ⟨x113, rfl⟩ : ∃ z, z = u := ⟨_, rfl⟩
    have hP : va_P D vwCl [(aw, .inl (cI, 2179, .inl fw)), (av, .inl (cI, 400, .inl fv)), (ac, .inl (cI, 6060, .inl fc)), (h, oX11 x113 aw ai ab ac hi re aP ta po en be de fa a5 sp av an ak ne aW aC ag aT aN aF)] H := hP
    have hD : va_D A [(aw, .inl (cI, 2179, .inl fw)), (av, .inl (cI, 400, .inl fv)), (ac, .inl (cI, 6060, .inl fc)), (h, oX11 x113 aw ai ab ac hi re aP ta po en be de fa a5 sp av an ak ne aW aC ag aT aN aF)] := hD
    have k114 := hw
    refine lv_if_ne (tgt := 74) hx hb dX11_give_31 (by decide) (fun _ => ?_) (fun c116 => absurd c116 (rg_neq k114 (rg_lit (n := 0) (by decide)) (by decide)))
    refine lv_iconst (v := 0) hx hb dX11_give_74 (by decide) ?_
    have hP9 := hP.sub (ws' := [(h, oX11 x113 aw ai ab ac hi re aP ta po en be de fa a5 sp av an ak ne aW aC ag aT aN aF), (aw, .inl (cI, 2179, .inl fw)), (av, .inl (cI, 400, .inl fv)), (ac, .inl (cI, 6060, .inl fc))]) [3, 0, 1, 2] rfl
    have hD9 := hD.sub (ws' := [(h, oX11 x113 aw ai ab ac hi re aP ta po en be de fa a5 sp av an ak ne aW aC ag aT aN aF), (aw, .inl (cI, 2179, .inl fw)), (av, .inl (cI, 400, .inl fv)), (ac, .inl (cI, 6060, .inl fc))]) [3, 0, 1, 2] (by decide) rfl
    exact W.iret (v := 0) hx hb hr (fun t ht hW => ⟨⟨0, (x113, re, fw, fv, fc), rfl, ⟨H_re, H_fw_B, H_fw_L, H_fw_W, H_fc_C⟩, by rw [ht]; exact hP9, va_K.moved hW.alike hK, hD9⟩, hS.F ht⟩) hS.2.2 dX11_give_75

def kwX11_runsFrom : List Cond := .code yX11_runsFrom cX11_runsFrom 4 (some .boolean) :: kG
theorem hdX11_runsFrom : yX11_runsFrom.cls ≠ "java/lang/invoke/MethodHandle" ∧ yX11_runsFrom.cls ≠ "java/lang/invoke/VarHandle" ∧ (parseMethodDescriptor yX11_runsFrom.desc).map (fun d => d.parameters.length) = some 2 := by decide +kernel
theorem gX11_runsFrom_X11_draw : GoodIn kG (wsV RX11 301 RX11 yX11_draw kwX11_draw) := gK w34_4 (gK w34_5 (gK w34_6 (gK w0_5 (gK w34_7 gGG))))
theorem gX11_runsFrom_X11_in : GoodIn kG (va_wsS RX11 75 yX11_in kwX11_in) := gK w27_8 (gK w27_9 (gK w0_5 (gK w27_10 gGG)))
theorem gX11_runsFrom_X11_of : GoodIn kG (wsV RX11 156 RX11 yX11_of kwX11_of) := gK w21_9 (gK w21_10 (gK w21_11 (gK w0_5 (gK w21_12 gGG))))
theorem gX11_runsFrom_X11_sets : GoodIn kG (wsV RX11 150 RX11 yX11_sets kwX11_sets) := gK w20_21 (gK w20_22 (gK w20_23 (gK w0_5 (gK w21_0 gGG))))
theorem dX11_runsFrom_0 : decode cX11_runsFrom 0 = .ok (.iload_n 2, 1) := by decide +kernel
theorem dX11_runsFrom_1 : decode cX11_runsFrom 1 = .ok (.iconst 0, 1) := by decide +kernel
theorem dX11_runsFrom_2 : decode cX11_runsFrom 2 = .ok (.aload_n 0, 1) := by decide +kernel
theorem dX11_runsFrom_3 : decode cX11_runsFrom 3 = .ok (.getfield 89, 3) := by decide +kernel
theorem dX11_runsFrom_6 : decode cX11_runsFrom 6 = .ok (.iconst 1, 1) := by decide +kernel
theorem dX11_runsFrom_7 : decode cX11_runsFrom 7 = .ok (.isub, 1) := by decide +kernel
theorem dX11_runsFrom_8 : decode cX11_runsFrom 8 = .ok (.invokestatic 75, 3) := by decide +kernel
theorem dX11_runsFrom_11 : decode cX11_runsFrom 11 = .ok (.ifCond .ne 5, 3) := by decide +kernel
theorem dX11_runsFrom_14 : decode cX11_runsFrom 14 = .ok (.iconst 0, 1) := by decide +kernel
theorem dX11_runsFrom_15 : decode cX11_runsFrom 15 = .ok (.ireturn, 1) := by decide +kernel
theorem dX11_runsFrom_16 : decode cX11_runsFrom 16 = .ok (.aload_n 0, 1) := by decide +kernel
theorem dX11_runsFrom_17 : decode cX11_runsFrom 17 = .ok (.aload_n 0, 1) := by decide +kernel
theorem dX11_runsFrom_18 : decode cX11_runsFrom 18 = .ok (.getfield 26, 3) := by decide +kernel
theorem dX11_runsFrom_21 : decode cX11_runsFrom 21 = .ok (.iload_n 2, 1) := by decide +kernel
theorem dX11_runsFrom_22 : decode cX11_runsFrom 22 = .ok (.baload, 1) := by decide +kernel
theorem dX11_runsFrom_23 : decode cX11_runsFrom 23 = .ok (.bipush 97, 2) := by decide +kernel
theorem dX11_runsFrom_25 : decode cX11_runsFrom 25 = .ok (.isub, 1) := by decide +kernel
theorem dX11_runsFrom_26 : decode cX11_runsFrom 26 = .ok (.iconst 0, 1) := by decide +kernel
theorem dX11_runsFrom_27 : decode cX11_runsFrom 27 = .ok (.invokevirtual 156, 3) := by decide +kernel
theorem dX11_runsFrom_30 : decode cX11_runsFrom 30 = .ok (.istore_n 3, 1) := by decide +kernel
theorem dX11_runsFrom_31 : decode cX11_runsFrom 31 = .ok (.iload_n 3, 1) := by decide +kernel
theorem dX11_runsFrom_32 : decode cX11_runsFrom 32 = .ok (.ifCond .eq 19, 3) := by decide +kernel
theorem dX11_runsFrom_35 : decode cX11_runsFrom 35 = .ok (.aload_n 0, 1) := by decide +kernel
theorem dX11_runsFrom_36 : decode cX11_runsFrom 36 = .ok (.bipush 100, 2) := by decide +kernel
theorem dX11_runsFrom_38 : decode cX11_runsFrom 38 = .ok (.invokevirtual 301, 3) := by decide +kernel
theorem dX11_runsFrom_41 : decode cX11_runsFrom 41 = .ok (.aload_n 0, 1) := by decide +kernel
theorem dX11_runsFrom_42 : decode cX11_runsFrom 42 = .ok (.getfield 13, 3) := by decide +kernel
theorem dX11_runsFrom_45 : decode cX11_runsFrom 45 = .ok (.bipush 8, 2) := by decide +kernel
theorem dX11_runsFrom_47 : decode cX11_runsFrom 47 = .ok (.iaload, 1) := by decide +kernel
theorem dX11_runsFrom_48 : decode cX11_runsFrom 48 = .ok (.if_icmp .lt 5, 3) := by decide +kernel
theorem dX11_runsFrom_51 : decode cX11_runsFrom 51 = .ok (.iconst 0, 1) := by decide +kernel
theorem dX11_runsFrom_52 : decode cX11_runsFrom 52 = .ok (.ireturn, 1) := by decide +kernel
theorem dX11_runsFrom_53 : decode cX11_runsFrom 53 = .ok (.aload_n 0, 1) := by decide +kernel
theorem dX11_runsFrom_54 : decode cX11_runsFrom 54 = .ok (.iload_n 1, 1) := by decide +kernel
theorem dX11_runsFrom_55 : decode cX11_runsFrom 55 = .ok (.iconst 0, 1) := by decide +kernel
theorem dX11_runsFrom_56 : decode cX11_runsFrom 56 = .ok (.iload_n 3, 1) := by decide +kernel
theorem dX11_runsFrom_57 : decode cX11_runsFrom 57 = .ok (.invokevirtual 150, 3) := by decide +kernel
theorem dX11_runsFrom_60 : decode cX11_runsFrom 60 = .ok (.iconst 1, 1) := by decide +kernel
theorem dX11_runsFrom_61 : decode cX11_runsFrom 61 = .ok (.ireturn, 1) := by decide +kernel
set_option maxHeartbeats 4000000 in
set_option maxRecDepth 100000 in
/-- reference: runsFrom -/
theorem r_runsFrom (l : Launch) (D : va_G) (cI cJ cB cC : ClassId) (h : Nat) (th : Int32) (aw : Nat) (ai : Nat) (ab : Nat) (ac : Nat) (hi : Int32) (re : Int32) (aP : Nat) (ta : Int32) (po : Int32) (en : Int32) (be : Int32) (de : Int32) (fa : Int32) (a5 : Nat) (sp : Int32) (av : Nat) (an : Nat) (ak : Nat) (ne : Int32) (aW : Nat) (aC : Nat) (ag : Nat) (aT : Nat) (aN : Nat) (aF : Nat) (fw : Nat → Int32) (ft : Nat → Int32) (mm : Int32) (at_ : Int32) (sz : Nat) (H_mm : Rg mm 0 11) (H_en : Rg en 0 400) (H_fw_W : wW fw) (H_fw_B : wB fw) (H_fw_L : wL fw) (H_HT : ∀ j : Nat, (j : Int) < (en : Int32).toInt → Rg (ft j) 97 108) : Met l yX11_runsFrom kwX11_runsFrom ({ frames := 1, cells := 0, slots := 0, locals := 23 } : Room) (kPre D (kT cI cJ cB cC) sz [(h, oX11 th aw ai ab ac hi re aP ta po en be de fa a5 sp av an ak ne aW aC ag aT aN aF), (aw, .inl (cI, 2179, .inl fw)), (aP, .inl (cB, 400, .inl ft))] [.ref h, .int mm, .int at_]) (va_Qi (fun (r : Int32) (f0_ : (Nat → Int32)) => wB f0_ ∧ wL f0_ ∧ wW f0_ ∧ Rg r 0 1) (fun (f0_ : (Nat → Int32)) (t : State) => kB D (kT cI cJ cB cC) (va_A [(h, oX11 th aw ai ab ac hi re aP ta po en be de fa a5 sp av an ak ne aW aC ag aT aN aF), (aw, .inl (cI, 2179, .inl fw)), (aP, .inl (cB, 400, .inl ft))] sz) [(h, oX11 th aw ai ab ac hi re aP ta po en be de fa a5 sp av an ak ne aW aC ag aT aN aF), (aw, .inl (cI, 2179, .inl f0_)), (aP, .inl (cB, 400, .inl ft))] t) (va_A [(h, oX11 th aw ai ab ac hi re aP ta po en be de fa a5 sp av an ak ne aW aC ag aT aN aF), (aw, .inl (cI, 2179, .inl fw)), (aP, .inl (cB, 400, .inl ft))] sz)) 0 0 (va_A [(h, oX11 th aw ai ab ac hi re aP ta po en be de fa a5 sp av an ak ne aW aC ag aT aN aF), (aw, .inl (cI, 2179, .inl fw)), (aP, .inl (cB, 400, .inl ft))] sz) := by
  refine Met.ofW (cc := cX11_runsFrom) (maxL := 4) (ret := (some .boolean)) (by decide) rfl ?_
  intro p e s m args below meth c s₁ B hml hv
  obtain ⟨rfl, hsz, hN, hE, hP, hK, hD0⟩ := hv
  have hx := B.exec
  have hb := B.bytes
  have hr := B.returns
  have hts := fun (w : Cond) (h : w ∈ kG) => atoms_spec (ws := kwX11_runsFrom) B.pre w (List.mem_cons_of_mem _ h)
  have hown : s.vm.findClass RX11 = some m.cls := findClass_of_methodNamed B.named
  subst hsz
  have hD := hD0.self (sz := s.heap.size)
  generalize hAe : va_A [(h, oX11 th aw ai ab ac hi re aP ta po en be de fa a5 sp av an ak ne aW aC ag aT aN aF), (aw, .inl (cI, 2179, .inl fw)), (aP, .inl (cB, 400, .inl ft))] s.heap.size = A at hD hE ⊢
  have hA : ∀ q : Nat, s.heap.size ≤ q → A q := fun q h => by rw [← hAe]; exact Or.inr h
  have hl := lv_entry ([.ref h, .int mm, .int at_]) (n := 4) (Nat.le_of_ble_eq_true rfl)
  rw [lg_entry_eq]
  generalize (lg_sl ([.ref h, .int mm, .int at_]) ++ List.replicate (4 - (lg_sl ([.ref h, .int mm, .int at_])).length) Slot.unset).toArray = ls at hl ⊢
  have hl : lv_has ls 4 [(0, .ref h), (1, .int mm), (2, .int at_)] := hl
  obtain ⟨H, hH0⟩ : ∃ H, H = s.heap := ⟨_, rfl⟩
  have hS : va_S A s.heap H [] := by rw [hH0]; exact va_S.rf
  have hP : va_P D vwCl [(h, oX11 th aw ai ab ac hi re aP ta po en be de fa a5 sp av an ak ne aW aC ag aT aN aF), (aw, .inl (cI, 2179, .inl fw)), (aP, .inl (cB, 400, .inl ft))] H := by rw [hH0]; exact hP
  refine kHeap hH0 ?_
  clear hH0
  refine lv_iload_n hx hb dX11_runsFrom_0 rfl (lv_at hl 2 rfl) ?_
  refine lv_iconst (v := 0) hx hb dX11_runsFrom_1 (by decide) ?_
  refine lv_aload_n hx hb dX11_runsFrom_2 rfl (lv_at hl 0 rfl) ?_
  refine va_get (D := D) (ci := 10) (v := .int en) (C := RX11) (T := TX11) (N := 26) hx hb hts iG_X11 hown hK hP 0 rfl rfl 10 (by decide) (hts _ w18_6) (fun _ h9 => h9) rfl dX11_runsFrom_3 ?_
  refine lv_iconst (v := 1) hx hb dX11_runsFrom_6 (by decide) ?_
  refine lv_isub hx hb dX11_runsFrom_7 ?_
  refine lv_topi (fun x1 ex1 => ?_)
  have tx1 : x1.toInt = en.toInt - 1 := ti_sub ex1 H_en (rg_lit (n := 1) (by decide)) (by decide) rfl (by decide)
  have k2 : Rg x1 (-1) 399 := rg_sub ex1 H_en (rg_lit (n := 1) (by decide)) (by decide)
  refine kpurei (wc := []) hP hD hS hA [] rfl (by decide) (fun hPc hDc hFc => va_runS (As := [.int at_, .int 0, .int x1]) (rest := []) ⟨hx, hb, hml, hown, hts⟩ (r_in_end l D cI cJ cB cC at_ x1 H.size k2) (va_cwS 3 hts gX11_runsFrom_X11_in rfl rfl rfl hdX11_in ⟨Nat.le_of_ble_eq_true rfl, Nat.le_of_ble_eq_true rfl⟩) ⟨kBlind, fun U hU hW => ⟨rfl, by rw [hU], hN.warm hW, hE.pass hS hFc hW hU, by rw [hU]; exact hPc, va_K.moved hW.alike hK, hDc⟩⟩ rfl rfl hl.1 rfl (lv_room (Nat.le_of_ble_eq_true rfl)) dX11_runsFrom_8 ⟨Nat.le_of_ble_eq_true rfl, Nat.le_of_ble_eq_true rfl⟩) (fun r3 u H locs hw hP hS => ?_)
  rcases hw with rfl | ⟨rfl, kc4_0, kc4_1, kc4_2⟩
  · skip
    refine lv_if_ne (tgt := 16) hx hb dX11_runsFrom_11 (by decide) (fun c5 => absurd (by decide) c5) (fun _ => ?_)
    refine lv_iconst (v := 0) hx hb dX11_runsFrom_14 (by decide) ?_
    have hP9 := hP.sub (ws' := [(h, oX11 th aw ai ab ac hi re aP ta po en be de fa a5 sp av an ak ne aW aC ag aT aN aF), (aw, .inl (cI, 2179, .inl fw)), (aP, .inl (cB, 400, .inl ft))]) [0, 1, 2] rfl
    have hD9 := hD.sub (ws' := [(h, oX11 th aw ai ab ac hi re aP ta po en be de fa a5 sp av an ak ne aW aC ag aT aN aF), (aw, .inl (cI, 2179, .inl fw)), (aP, .inl (cB, 400, .inl ft))]) [0, 1, 2] (by decide) rfl
    exact W.zret (v := 0) hx hb hr (by decide) (fun t ht hW => ⟨⟨0, (fw), rfl, ⟨H_fw_B, H_fw_L, H_fw_W, (rg_w (rg_lit (n := 0) (by decide)) (by decide))⟩, by rw [ht]; exact hP9, va_K.moved hW.alike hK, hD9⟩, hS.F ht⟩) hS.2.2 dX11_runsFrom_15
  · skip
    refine lv_if_ne (tgt := 16) hx hb dX11_runsFrom_11 (by decide) (fun _ => ?_) (fun c6 => absurd c6 (by decide))
    refine lv_aload_n hx hb dX11_runsFrom_16 rfl (lv_at hl 0 rfl) ?_
    refine lv_aload_n hx hb dX11_runsFrom_17 rfl (lv_at hl 0 rfl) ?_
    refine va_get (D := D) (ci := 10) (v := .ref aP) (C := RX11) (T := TX11) (N := 26) hx hb hts iG_X11 hown hK hP 0 rfl rfl 7 (by decide) (hts _ w5_8) (fun _ h9 => h9) rfl dX11_runsFrom_18 ?_
    refine lv_iload_n hx hb dX11_runsFrom_21 rfl (lv_at hl 2 rfl) ?_
    refine va_bald hx hb hK hP 2 2 rfl rfl (rg_in kc4_0 (by decide)) dX11_runsFrom_22 ?_
    refine lv_topi (fun x7 ex7 => ?_)
    have k8 : Rg x7 97 108 := (by rw [ex7, cl_of (k := cN at_) kc4_0 (by decide) (by simp only [cN]; have q1 := kc4_0; unfold Rg at q1; omega)]; exact H_HT (cN at_) (by simp only [cN]; have q1 := kc4_0; have q2 := kc4_2; have q3 := tx1; unfold Rg at *; omega))
    refine lv_bipush (v := 97) hx hb dX11_runsFrom_23 (by decide) ?_
    refine lv_isub hx hb dX11_runsFrom_25 ?_
    refine lv_topi (fun x9 ex9 => ?_)
    have tx9 : x9.toInt = x7.toInt - 97 := ti_sub ex9 k8 (rg_lit (n := 97) (by decide)) (by decide) rfl (by decide)
    have k10 : Rg x9 0 11 := rg_sub ex9 k8 (rg_lit (n := 97) (by decide)) (by decide)
    refine lv_iconst (v := 0) hx hb dX11_runsFrom_26 (by decide) ?_
    refine kpurei (wc := [(h, oX11 th aw ai ab ac hi re aP ta po en be de fa a5 sp av an ak ne aW aC ag aT aN aF), (aw, .inl (cI, 2179, .inl fw))]) hP hD hS hA [0, 1] rfl (by decide) (fun hPc hDc hFc => va_runV (As := [.int x9, .int 0]) (rest := []) ⟨hx, hb, hml, hown, hts⟩ (r_of0 l D cI cJ cB cC h th aw ai ab ac hi re aP ta po en be de fa a5 sp av an ak ne aW aC ag aT aN aF fw x9 H.size k10 H_fw_W) (cwV 2 hts gX11_runsFrom_X11_of rfl rfl rfl ⟨rfl, hdX11_of⟩ ⟨Nat.le_of_ble_eq_true rfl, Nat.le_of_ble_eq_true rfl⟩) ⟨kBlind, va_recv hK hPc (ci := 10) (q0 := 0) rfl rfl, fun U hU hW => ⟨rfl, by rw [hU], hN.warm hW, hE.pass hS hFc hW hU, by rw [hU]; exact hPc, va_K.moved hW.alike hK, hDc⟩⟩ rfl rfl hl.1 rfl (lv_room (Nat.le_of_ble_eq_true rfl)) dX11_runsFrom_27 ⟨Nat.le_of_ble_eq_true rfl, Nat.le_of_ble_eq_true rfl⟩) (fun r11 u H locs hw hP hS => ?_)
    have k12 := hw
    refine lv_istore_n (lv' := [(3, .int r11), (0, .ref h), (1, .int mm), (2, .int at_)]) hx hb dX11_runsFrom_30 rfl hl (by decide) rfl (fun ls hl => ?_)
    refine lv_iload_n hx hb dX11_runsFrom_31 rfl (lv_at hl 0 rfl) ?_
    refine k_join (hd := 51) (cells2 := 0) (slots2 := 0) (fun (g30 : (Nat → Int32)) => []) (fun (g30 : (Nat → Int32)) (H : Heap) (locs : List Loc) (ls : Array Slot) => wB g30 ∧ wL g30 ∧ wW g30 ∧ va_P D vwCl [(h, oX11 th aw ai ab ac hi re aP ta po en be de fa a5 sp av an ak ne aW aC ag aT aN aF), (aw, .inl (cI, 2179, .inl g30)), (aP, .inl (cB, 400, .inl ft))] H ∧ va_D A [(h, oX11 th aw ai ab ac hi re aP ta po en be de fa a5 sp av an ak ne aW aC ag aT aN aF), (aw, .inl (cI, 2179, .inl g30)), (aP, .inl (cB, 400, .inl ft))] ∧ va_S A s.heap H locs ∧ lv_has ls 4 [(3, .int r11), (0, .ref h), (1, .int mm), (2, .int at_)]) (fun u H locs ls hI => ?_) (fun hJ51 => ?_)
    · skip
      clear hP hD hS hl
      obtain ⟨g30, rfl⟩ : ∃ z, z = u := ⟨_, rfl⟩
      obtain ⟨hg30_0, hg30_1, hg30_2, hP, hD, hS, hl⟩ := hI
      have hP : va_P D vwCl [(h, oX11 th aw ai ab ac hi re aP ta po en be de fa a5 sp av an ak ne aW aC ag aT aN aF), (aw, .inl (cI, 2179, .inl g30)), (aP, .inl (cB, 400, .inl ft))] H := hP
      have hD : va_D A [(h, oX11 th aw ai ab ac hi re aP ta po en be de fa a5 sp av an ak ne aW aC ag aT aN aF), (aw, .inl (cI, 2179, .inl g30)), (aP, .inl (cB, 400, .inl ft))] := hD
      have hl : lv_has ls 4 [(3, .int r11), (0, .ref h), (1, .int mm), (2, .int at_)] := hl
      refine lv_iconst (v := 0) hx hb dX11_runsFrom_51 (by decide) ?_
      have hP9 := hP.sub (ws' := [(h, oX11 th aw ai ab ac hi re aP ta po en be de fa a5 sp av an ak ne aW aC ag aT aN aF), (aw, .inl (cI, 2179, .inl g30)), (aP, .inl (cB, 400, .inl ft))]) [0, 1, 2] rfl
      have hD9 := hD.sub (ws' := [(h, oX11 th aw ai ab ac hi re aP ta po en be de fa a5 sp av an ak ne aW aC ag aT aN aF), (aw, .inl (cI, 2179, .inl g30)), (aP, .inl (cB, 400, .inl ft))]) [0, 1, 2] (by decide) rfl
      exact W.zret (v := 0) hx hb hr (by decide) (fun t ht hW => ⟨⟨0, (g30), rfl, ⟨hg30_0, hg30_1, hg30_2, (rg_w (rg_lit (n := 0) (by decide)) (by decide))⟩, by rw [ht]; exact hP9, va_K.moved hW.alike hK, hD9⟩, hS.F ht⟩) hS.2.2 dX11_runsFrom_52
    refine lv_if_eq (tgt := 51) hx hb dX11_runsFrom_32 (by decide) (fun c31 => ?_) (fun c31 => ?_)
    · skip
      have k32 : Rg r11 0 0 := rg_q1 (eqI c31) (rg_any r11) (rg_lit (n := 0) (by decide)) (by decide)
      exact hJ51 (fw) _ _ _ ⟨H_fw_B, H_fw_L, H_fw_W, hP.sub (ws' := [(h, oX11 th aw ai ab ac hi re aP ta po en be de fa a5 sp av an ak ne aW aC ag aT aN aF), (aw, .inl (cI, 2179, .inl fw)), (aP, .inl (cB, 400, .inl ft))]) [0, 1, 2] rfl, hD.sub (ws' := [(h, oX11 th aw ai ab ac hi re aP ta po en be de fa a5 sp av an ak ne aW aC ag aT aN aF), (aw, .inl (cI, 2179, .inl fw)), (aP, .inl (cB, 400, .inl ft))]) [0, 1, 2] (by decide) rfl, hS, lv_sub (l' := [(3, .int r11), (0, .ref h), (1, .int mm), (2, .int at_)]) hl [0, 1, 2, 3] rfl⟩
    · skip
      refine lv_aload_n hx hb dX11_runsFrom_35 rfl (lv_at hl 1 rfl) ?_
      refine lv_bipush (v := 100) hx hb dX11_runsFrom_36 (by decide) ?_
      refine kcalli (wc := [(h, oX11 th aw ai ab ac hi re aP ta po en be de fa a5 sp av an ak ne aW aC ag aT aN aF), (aw, .inl (cI, 2179, .inl fw))]) (wr := [(aP, .inl (cB, 400, .inl ft))]) hP hD hS hA [0, 1] [2] rfl rfl (by decide) (by decide) (by decide) (fun hPc hDc hFc => va_runV (As := [.int 100]) (rest := []) ⟨hx, hb, hml, hown, hts⟩ (r_draw l D cI cJ cB cC h th aw ai ab ac hi re aP ta po en be de fa a5 sp av an ak ne aW aC ag aT aN aF fw 100 H.size (rg_w (rg_lit (n := 100) (by decide)) (by decide)) H_fw_W H_fw_B H_fw_L) (cwV 1 hts gX11_runsFrom_X11_draw rfl rfl rfl ⟨rfl, hdX11_draw⟩ ⟨Nat.le_of_ble_eq_true rfl, Nat.le_of_ble_eq_true rfl⟩) ⟨kBlind, va_recv hK hPc (ci := 10) (q0 := 0) rfl rfl, fun U hU hW => ⟨rfl, by rw [hU], hN.warm hW, hE.pass hS hFc hW hU, by rw [hU]; exact hPc, va_K.moved hW.alike hK, hDc⟩⟩ rfl rfl hl.1 rfl (lv_room (Nat.le_of_ble_eq_true rfl)) dX11_runsFrom_38 ⟨Nat.le_of_ble_eq_true rfl, Nat.le_of_ble_eq_true rfl⟩) (fun r33 u H locs hw hP hD hS => ?_)
      obtain ⟨g34, rfl⟩ : ∃ z, z = u := ⟨_, rfl⟩
      have hP : va_P D vwCl [(aP, .inl (cB, 400, .inl ft)), (h, oX11 th aw ai ab ac hi re aP ta po en be de fa a5 sp av an ak ne aW aC ag aT aN aF), (aw, .inl (cI, 2179, .inl g34))] H := hP
      have hD : va_D A [(aP, .inl (cB, 400, .inl ft)), (h, oX11 th aw ai ab ac hi re aP ta po en be de fa a5 sp av an ak ne aW aC ag aT aN aF), (aw, .inl (cI, 2179, .inl g34))] := hD
      obtain ⟨k35, k36, k37, k38⟩ := hw
      refine lv_aload_n hx hb dX11_runsFrom_41 rfl (lv_at hl 1 rfl) ?_
      refine va_get (D := D) (ci := 10) (v := .ref aw) (C := RX11) (T := TX11) (N := 26) hx hb hts iG_X11 hown hK hP 1 rfl rfl 1 (by decide) (hts _ w5_3) (fun _ h9 => h9) rfl dX11_runsFrom_42 ?_
      refine lv_bipush (v := 8) hx hb dX11_runsFrom_45 (by decide) ?_
      refine va_iald hx hb hK hP 2 0 rfl rfl (rg_in (rg_lit (n := 8) (by decide)) (by decide)) dX11_runsFrom_47 ?_
      refine lv_topi (fun x39 ex39 => ?_)
      refine lv_icmp_lt (tgt := 53) hx hb dX11_runsFrom_48 (by decide) (fun c40 => ?_) (fun c40 => ?_)
      · skip
        have k41 : Rg x39 1 2147483647 := rg_l2 (ltI c40) k38 (rg_any x39) (by decide)
        refine lv_aload_n hx hb dX11_runsFrom_53 rfl (lv_at hl 1 rfl) ?_
        refine lv_iload_n hx hb dX11_runsFrom_54 rfl (lv_at hl 2 rfl) ?_
        refine lv_iconst (v := 0) hx hb dX11_runsFrom_55 (by decide) ?_
        refine lv_iload_n hx hb dX11_runsFrom_56 rfl (lv_at hl 0 rfl) ?_
        refine kcallv (wc := [(h, oX11 th aw ai ab ac hi re aP ta po en be de fa a5 sp av an ak ne aW aC ag aT aN aF), (aw, .inl (cI, 2179, .inl g34))]) (wr := [(aP, .inl (cB, 400, .inl ft))]) hP hD hS hA [1, 2] [0] rfl rfl (by decide) (by decide) (by decide) (fun hPc hDc hFc => va_runV (As := [.int mm, .int 0, .int r11]) (rest := []) ⟨hx, hb, hml, hown, hts⟩ (r_sets0 l D cI cJ cB cC h th aw ai ab ac hi re aP ta po en be de fa a5 sp av an ak ne aW aC ag aT aN aF g34 mm r11 H.size H_mm k37 k35 k36) (cwV 3 hts gX11_runsFrom_X11_sets rfl rfl rfl ⟨rfl, hdX11_sets⟩ ⟨Nat.le_of_ble_eq_true rfl, Nat.le_of_ble_eq_true rfl⟩) ⟨kBlind, va_recv hK hPc (ci := 10) (q0 := 0) rfl rfl, fun U hU hW => ⟨rfl, by rw [hU], hN.warm hW, hE.pass hS hFc hW hU, by rw [hU]; exact hPc, va_K.moved hW.alike hK, hDc⟩⟩ rfl rfl hl.1 rfl (lv_room (Nat.le_of_ble_eq_true rfl)) dX11_runsFrom_57 ⟨Nat.le_of_ble_eq_true rfl, Nat.le_of_ble_eq_true rfl⟩) (fun u H locs hw hP hD hS => ?_)
        obtain ⟨g42, rfl⟩ : ∃ z, z = u := ⟨_, rfl⟩
        have hP : va_P D vwCl [(aP, .inl (cB, 400, .inl ft)), (h, oX11 th aw ai ab ac hi re aP ta po en be de fa a5 sp av an ak ne aW aC ag aT aN aF), (aw, .inl (cI, 2179, .inl g42))] H := hP
        have hD : va_D A [(aP, .inl (cB, 400, .inl ft)), (h, oX11 th aw ai ab ac hi re aP ta po en be de fa a5 sp av an ak ne aW aC ag aT aN aF), (aw, .inl (cI, 2179, .inl g42))] := hD
        obtain ⟨k43, k44, k45⟩ := hw
        refine lv_iconst (v := 1) hx hb dX11_runsFrom_60 (by decide) ?_
        have hP9 := hP.sub (ws' := [(h, oX11 th aw ai ab ac hi re aP ta po en be de fa a5 sp av an ak ne aW aC ag aT aN aF), (aw, .inl (cI, 2179, .inl g42)), (aP, .inl (cB, 400, .inl ft))]) [1, 2, 0] rfl
        have hD9 := hD.sub (ws' := [(h, oX11 th aw ai ab ac hi re aP ta po en be de fa a5 sp av an ak ne aW aC ag aT aN aF), (aw, .inl (cI, 2179, .inl g42)), (aP, .inl (cB, 400, .inl ft))]) [1, 2, 0] (by decide) rfl
        exact W.zret (v := 1) hx hb hr (by decide) (fun t ht hW => ⟨⟨1, (g42), rfl, ⟨k43, k44, k45, (rg_w (rg_lit (n := 1) (by decide)) (by decide))⟩, by rw [ht]; exact hP9, va_K.moved hW.alike hK, hD9⟩, hS.F ht⟩) hS.2.2 dX11_runsFrom_61
      · skip
        have k46 : Rg x39 (-2147483648) 99 := rg_e1 (nltI c40) (rg_any x39) k38 (by decide)
        exact hJ51 (g34) _ _ _ ⟨k35, k36, k37, hP.sub (ws' := [(h, oX11 th aw ai ab ac hi re aP ta po en be de fa a5 sp av an ak ne aW aC ag aT aN aF), (aw, .inl (cI, 2179, .inl g34)), (aP, .inl (cB, 400, .inl ft))]) [1, 2, 0] rfl, hD.sub (ws' := [(h, oX11 th aw ai ab ac hi re aP ta po en be de fa a5 sp av an ak ne aW aC ag aT aN aF), (aw, .inl (cI, 2179, .inl g34)), (aP, .inl (cB, 400, .inl ft))]) [1, 2, 0] (by decide) rfl, hS, lv_sub (l' := [(3, .int r11), (0, .ref h), (1, .int mm), (2, .int at_)]) hl [0, 1, 2, 3] rfl⟩

def kwX11_hang : List Cond := .code yX11_hang cX11_hang 7 (some .int) :: kG
theorem hdX11_hang : yX11_hang.cls ≠ "java/lang/invoke/MethodHandle" ∧ yX11_hang.cls ≠ "java/lang/invoke/VarHandle" ∧ (parseMethodDescriptor yX11_hang.desc).map (fun d => d.parameters.length) = some 0 := by decide +kernel
theorem gX11_hang_X11_has : GoodIn kG (va_wsS RX11 310 yX11_has kwX11_has) := gK w37_11 (gK w37_12 (gK w0_5 (gK w37_13 gGG)))
theorem gX11_hang_X11_noShirt : GoodIn kG (wsV RX11 283 RX11 yX11_noShirt kwX11_noShirt) := gK w28_12 (gK w28_13 (gK w28_14 (gK w0_5 (gK w28_15 gGG))))
theorem gX11_hang_X11_of : GoodIn kG (wsV RX11 156 RX11 yX11_of kwX11_of) := gK w21_9 (gK w21_10 (gK w21_11 (gK w0_5 (gK w21_12 gGG))))
theorem gX11_hang_X11_remembers : GoodIn kG (wsV RX11 298 RX11 yX11_remembers kwX11_remembers) := gK w34_0 (gK w34_1 (gK w34_2 (gK w0_5 (gK w34_3 gGG))))
theorem gX11_hang_X11_runsFrom : GoodIn kG (wsV RX11 313 RX11 yX11_runsFrom kwX11_runsFrom) := gK w37_14 (gK w37_15 (gK w37_16 (gK w0_5 (gK w37_17 gGG))))
theorem gX11_hang_X11_throwsIf : GoodIn kG (wsV RX11 258 RX11 yX11_throwsIf kwX11_throwsIf) := gK w23_6 (gK w23_7 (gK w23_8 (gK w0_5 (gK w23_9 gGG))))
theorem gX11_hang_X11_uses : GoodIn kG (wsV RX11 247 RX11 yX11_uses kwX11_uses) := gK w18_7 (gK w18_8 (gK w18_9 (gK w0_5 (gK w18_10 gGG))))
theorem dX11_hang_0 : decode cX11_hang 0 = .ok (.aload_n 0, 1) := by decide +kernel
theorem dX11_hang_1 : decode cX11_hang 1 = .ok (.invokevirtual 247, 3) := by decide +kernel
theorem dX11_hang_4 : decode cX11_hang 4 = .ok (.iconst 0, 1) := by decide +kernel
theorem dX11_hang_5 : decode cX11_hang 5 = .ok (.istore_n 1, 1) := by decide +kernel
theorem dX11_hang_6 : decode cX11_hang 6 = .ok (.iconst 1, 1) := by decide +kernel
theorem dX11_hang_7 : decode cX11_hang 7 = .ok (.istore_n 2, 1) := by decide +kernel
theorem dX11_hang_8 : decode cX11_hang 8 = .ok (.iconst 0, 1) := by decide +kernel
theorem dX11_hang_9 : decode cX11_hang 9 = .ok (.istore_n 3, 1) := by decide +kernel
theorem dX11_hang_10 : decode cX11_hang 10 = .ok (.iconst 0, 1) := by decide +kernel
theorem dX11_hang_11 : decode cX11_hang 11 = .ok (.istore 4, 2) := by decide +kernel
theorem dX11_hang_13 : decode cX11_hang 13 = .ok (.iload 4, 2) := by decide +kernel
theorem dX11_hang_15 : decode cX11_hang 15 = .ok (.aload_n 0, 1) := by decide +kernel
theorem dX11_hang_16 : decode cX11_hang 16 = .ok (.getfield 89, 3) := by decide +kernel
theorem dX11_hang_19 : decode cX11_hang 19 = .ok (.if_icmp .ge 88, 3) := by decide +kernel
theorem dX11_hang_22 : decode cX11_hang 22 = .ok (.iload_n 2, 1) := by decide +kernel
theorem dX11_hang_23 : decode cX11_hang 23 = .ok (.ifCond .eq 84, 3) := by decide +kernel
theorem dX11_hang_26 : decode cX11_hang 26 = .ok (.aload_n 0, 1) := by decide +kernel
theorem dX11_hang_27 : decode cX11_hang 27 = .ok (.getfield 26, 3) := by decide +kernel
theorem dX11_hang_30 : decode cX11_hang 30 = .ok (.iload 4, 2) := by decide +kernel
theorem dX11_hang_32 : decode cX11_hang 32 = .ok (.baload, 1) := by decide +kernel
theorem dX11_hang_33 : decode cX11_hang 33 = .ok (.bipush 97, 2) := by decide +kernel
theorem dX11_hang_35 : decode cX11_hang 35 = .ok (.isub, 1) := by decide +kernel
theorem dX11_hang_36 : decode cX11_hang 36 = .ok (.istore 5, 2) := by decide +kernel
theorem dX11_hang_38 : decode cX11_hang 38 = .ok (.aload_n 0, 1) := by decide +kernel
theorem dX11_hang_39 : decode cX11_hang 39 = .ok (.iload 5, 2) := by decide +kernel
theorem dX11_hang_41 : decode cX11_hang 41 = .ok (.invokevirtual 283, 3) := by decide +kernel
theorem dX11_hang_44 : decode cX11_hang 44 = .ok (.ifCond .ne 16, 3) := by decide +kernel
theorem dX11_hang_47 : decode cX11_hang 47 = .ok (.iload_n 1, 1) := by decide +kernel
theorem dX11_hang_48 : decode cX11_hang 48 = .ok (.iload 5, 2) := by decide +kernel
theorem dX11_hang_50 : decode cX11_hang 50 = .ok (.invokestatic 310, 3) := by decide +kernel
theorem dX11_hang_53 : decode cX11_hang 53 = .ok (.ifCond .ne 7, 3) := by decide +kernel
theorem dX11_hang_56 : decode cX11_hang 56 = .ok (.iconst 1, 1) := by decide +kernel
theorem dX11_hang_57 : decode cX11_hang 57 = .ok (.goto 4, 3) := by decide +kernel
theorem dX11_hang_60 : decode cX11_hang 60 = .ok (.iconst 0, 1) := by decide +kernel
theorem dX11_hang_61 : decode cX11_hang 61 = .ok (.istore_n 2, 1) := by decide +kernel
theorem dX11_hang_62 : decode cX11_hang 62 = .ok (.iload_n 1, 1) := by decide +kernel
theorem dX11_hang_63 : decode cX11_hang 63 = .ok (.iload_n 2, 1) := by decide +kernel
theorem dX11_hang_64 : decode cX11_hang 64 = .ok (.ifCond .eq 10, 3) := by decide +kernel
theorem dX11_hang_67 : decode cX11_hang 67 = .ok (.iconst 1, 1) := by decide +kernel
theorem dX11_hang_68 : decode cX11_hang 68 = .ok (.iload 5, 2) := by decide +kernel
theorem dX11_hang_70 : decode cX11_hang 70 = .ok (.ishl, 1) := by decide +kernel
theorem dX11_hang_71 : decode cX11_hang 71 = .ok (.goto 4, 3) := by decide +kernel
theorem dX11_hang_74 : decode cX11_hang 74 = .ok (.iconst 0, 1) := by decide +kernel
theorem dX11_hang_75 : decode cX11_hang 75 = .ok (.ior, 1) := by decide +kernel
theorem dX11_hang_76 : decode cX11_hang 76 = .ok (.istore_n 1, 1) := by decide +kernel
theorem dX11_hang_77 : decode cX11_hang 77 = .ok (.iload_n 3, 1) := by decide +kernel
theorem dX11_hang_78 : decode cX11_hang 78 = .ok (.ifCond .ne 17, 3) := by decide +kernel
theorem dX11_hang_81 : decode cX11_hang 81 = .ok (.iload_n 2, 1) := by decide +kernel
theorem dX11_hang_82 : decode cX11_hang 82 = .ok (.ifCond .eq 17, 3) := by decide +kernel
theorem dX11_hang_85 : decode cX11_hang 85 = .ok (.aload_n 0, 1) := by decide +kernel
theorem dX11_hang_86 : decode cX11_hang 86 = .ok (.iload 5, 2) := by decide +kernel
theorem dX11_hang_88 : decode cX11_hang 88 = .ok (.iconst 5, 1) := by decide +kernel
theorem dX11_hang_89 : decode cX11_hang 89 = .ok (.invokevirtual 156, 3) := by decide +kernel
theorem dX11_hang_92 : decode cX11_hang 92 = .ok (.ifCond .lt 7, 3) := by decide +kernel
theorem dX11_hang_95 : decode cX11_hang 95 = .ok (.iconst 1, 1) := by decide +kernel
theorem dX11_hang_96 : decode cX11_hang 96 = .ok (.goto 4, 3) := by decide +kernel
theorem dX11_hang_99 : decode cX11_hang 99 = .ok (.iconst 0, 1) := by decide +kernel
theorem dX11_hang_100 : decode cX11_hang 100 = .ok (.istore_n 3, 1) := by decide +kernel
theorem dX11_hang_101 : decode cX11_hang 101 = .ok (.iinc 4 1, 3) := by decide +kernel
theorem dX11_hang_104 : decode cX11_hang 104 = .ok (.goto (-91), 3) := by decide +kernel
theorem dX11_hang_107 : decode cX11_hang 107 = .ok (.aload_n 0, 1) := by decide +kernel
theorem dX11_hang_108 : decode cX11_hang 108 = .ok (.iload_n 2, 1) := by decide +kernel
theorem dX11_hang_109 : decode cX11_hang 109 = .ok (.ifCond .ne 7, 3) := by decide +kernel
theorem dX11_hang_112 : decode cX11_hang 112 = .ok (.iconst 1, 1) := by decide +kernel
theorem dX11_hang_113 : decode cX11_hang 113 = .ok (.goto 4, 3) := by decide +kernel
theorem dX11_hang_116 : decode cX11_hang 116 = .ok (.iconst 0, 1) := by decide +kernel
theorem dX11_hang_117 : decode cX11_hang 117 = .ok (.iconst 1, 1) := by decide +kernel
theorem dX11_hang_118 : decode cX11_hang 118 = .ok (.invokevirtual 258, 3) := by decide +kernel
theorem dX11_hang_121 : decode cX11_hang 121 = .ok (.ifCond .ne 12, 3) := by decide +kernel
theorem dX11_hang_124 : decode cX11_hang 124 = .ok (.aload_n 0, 1) := by decide +kernel
theorem dX11_hang_125 : decode cX11_hang 125 = .ok (.iload_n 3, 1) := by decide +kernel
theorem dX11_hang_126 : decode cX11_hang 126 = .ok (.iconst 2, 1) := by decide +kernel
theorem dX11_hang_127 : decode cX11_hang 127 = .ok (.invokevirtual 258, 3) := by decide +kernel
theorem dX11_hang_130 : decode cX11_hang 130 = .ok (.ifCond .eq 5, 3) := by decide +kernel
theorem dX11_hang_133 : decode cX11_hang 133 = .ok (.iconst 0, 1) := by decide +kernel
theorem dX11_hang_134 : decode cX11_hang 134 = .ok (.ireturn, 1) := by decide +kernel
theorem dX11_hang_135 : decode cX11_hang 135 = .ok (.aload_n 0, 1) := by decide +kernel
theorem dX11_hang_136 : decode cX11_hang 136 = .ok (.invokevirtual 298, 3) := by decide +kernel
theorem dX11_hang_139 : decode cX11_hang 139 = .ok (.iconst 0, 1) := by decide +kernel
theorem dX11_hang_140 : decode cX11_hang 140 = .ok (.istore 4, 2) := by decide +kernel
theorem dX11_hang_142 : decode cX11_hang 142 = .ok (.iconst 0, 1) := by decide +kernel
theorem dX11_hang_143 : decode cX11_hang 143 = .ok (.istore 5, 2) := by decide +kernel
theorem dX11_hang_145 : decode cX11_hang 145 = .ok (.iload 5, 2) := by decide +kernel
theorem dX11_hang_147 : decode cX11_hang 147 = .ok (.aload_n 0, 1) := by decide +kernel
theorem dX11_hang_148 : decode cX11_hang 148 = .ok (.getfield 89, 3) := by decide +kernel
theorem dX11_hang_151 : decode cX11_hang 151 = .ok (.if_icmp .ge 60, 3) := by decide +kernel
theorem dX11_hang_154 : decode cX11_hang 154 = .ok (.aload_n 0, 1) := by decide +kernel
theorem dX11_hang_155 : decode cX11_hang 155 = .ok (.getfield 26, 3) := by decide +kernel
theorem dX11_hang_158 : decode cX11_hang 158 = .ok (.iload 5, 2) := by decide +kernel
theorem dX11_hang_160 : decode cX11_hang 160 = .ok (.baload, 1) := by decide +kernel
theorem dX11_hang_161 : decode cX11_hang 161 = .ok (.bipush 97, 2) := by decide +kernel
theorem dX11_hang_163 : decode cX11_hang 163 = .ok (.isub, 1) := by decide +kernel
theorem dX11_hang_164 : decode cX11_hang 164 = .ok (.istore 6, 2) := by decide +kernel
theorem dX11_hang_166 : decode cX11_hang 166 = .ok (.aload_n 0, 1) := by decide +kernel
theorem dX11_hang_167 : decode cX11_hang 167 = .ok (.iload 6, 2) := by decide +kernel
theorem dX11_hang_169 : decode cX11_hang 169 = .ok (.iconst 0, 1) := by decide +kernel
theorem dX11_hang_170 : decode cX11_hang 170 = .ok (.invokevirtual 156, 3) := by decide +kernel
theorem dX11_hang_173 : decode cX11_hang 173 = .ok (.ifCond .ne 32, 3) := by decide +kernel
theorem dX11_hang_176 : decode cX11_hang 176 = .ok (.aload_n 0, 1) := by decide +kernel
theorem dX11_hang_177 : decode cX11_hang 177 = .ok (.iload 6, 2) := by decide +kernel
theorem dX11_hang_179 : decode cX11_hang 179 = .ok (.iload 5, 2) := by decide +kernel
theorem dX11_hang_181 : decode cX11_hang 181 = .ok (.iconst 1, 1) := by decide +kernel
theorem dX11_hang_182 : decode cX11_hang 182 = .ok (.isub, 1) := by decide +kernel
theorem dX11_hang_183 : decode cX11_hang 183 = .ok (.invokevirtual 313, 3) := by decide +kernel
theorem dX11_hang_186 : decode cX11_hang 186 = .ok (.ifCond .ne 16, 3) := by decide +kernel
theorem dX11_hang_189 : decode cX11_hang 189 = .ok (.aload_n 0, 1) := by decide +kernel
theorem dX11_hang_190 : decode cX11_hang 190 = .ok (.iload 6, 2) := by decide +kernel
theorem dX11_hang_192 : decode cX11_hang 192 = .ok (.iload 5, 2) := by decide +kernel
theorem dX11_hang_194 : decode cX11_hang 194 = .ok (.iconst 1, 1) := by decide +kernel
theorem dX11_hang_195 : decode cX11_hang 195 = .ok (.iadd, 1) := by decide +kernel
theorem dX11_hang_196 : decode cX11_hang 196 = .ok (.invokevirtual 313, 3) := by decide +kernel
theorem dX11_hang_199 : decode cX11_hang 199 = .ok (.ifCond .eq 6, 3) := by decide +kernel
theorem dX11_hang_202 : decode cX11_hang 202 = .ok (.iinc 4 1, 3) := by decide +kernel
theorem dX11_hang_205 : decode cX11_hang 205 = .ok (.iinc 5 1, 3) := by decide +kernel
theorem dX11_hang_208 : decode cX11_hang 208 = .ok (.goto (-63), 3) := by decide +kernel
theorem dX11_hang_211 : decode cX11_hang 211 = .ok (.iload 4, 2) := by decide +kernel
theorem dX11_hang_213 : decode cX11_hang 213 = .ok (.ireturn, 1) := by decide +kernel
set_option maxHeartbeats 4000000 in
set_option maxRecDepth 100000 in
/-- reference: hang -/
theorem r_hang (l : Launch) (D : va_G) (cI cJ cB cC : ClassId) (h : Nat) (th : Int32) (aw : Nat) (ai : Nat) (ab : Nat) (ac : Nat) (hi : Int32) (re : Int32) (aP : Nat) (ta : Int32) (po : Int32) (en : Int32) (be : Int32) (de : Int32) (fa : Int32) (a5 : Nat) (sp : Int32) (av : Nat) (an : Nat) (ak : Nat) (ne : Int32) (aW : Nat) (aC : Nat) (ag : Nat) (aT : Nat) (aN : Nat) (aF : Nat) (fw : Nat → Int32) (ft : Nat → Int32) (fc : Nat → Int32) (sz : Nat) (H_ta : Rg ta 0 400) (H_re : Rg re 0 12) (H_fw_W : wW fw) (H_fw_B : wB fw) (H_fw_L : wL fw) (H_fc_C : wC fc) : Met l yX11_hang kwX11_hang ({ frames := 2, cells := 0, slots := 0, locals := 46 } : Room) (kPre D (kT cI cJ cB cC) sz [(h, oX11 th aw ai ab ac hi re aP ta po en be de fa a5 sp av an ak ne aW aC ag aT aN aF), (aw, .inl (cI, 2179, .inl fw)), (aP, .inl (cB, 400, .inl ft)), (ac, .inl (cI, 6060, .inl fc))] [.ref h]) (va_Qi (fun (r : Int32) (uu : Int32 × Int32 × Int32 × (Nat → Int32) × (Nat → Int32)) => match uu with | (n0_, n1_, n2_, f3_, f4_) => Rg n1_ 0 12 ∧ Rg n2_ 0 400 ∧ wB f3_ ∧ wL f3_ ∧ wW f3_ ∧ wC f4_) (fun (uu : Int32 × Int32 × Int32 × (Nat → Int32) × (Nat → Int32)) (t : State) => match uu with | (n0_, n1_, n2_, f3_, f4_) => kB D (kT cI cJ cB cC) (va_A [(h, oX11 th aw ai ab ac hi re aP ta po en be de fa a5 sp av an ak ne aW aC ag aT aN aF), (aw, .inl (cI, 2179, .inl fw)), (aP, .inl (cB, 400, .inl ft)), (ac, .inl (cI, 6060, .inl fc))] sz) [(h, oX11 n0_ aw ai ab ac hi n1_ aP 0 0 n2_ be de fa a5 sp av an ak ne aW aC ag aT aN aF), (aw, .inl (cI, 2179, .inl f3_)), (aP, .inl (cB, 400, .inl ft)), (ac, .inl (cI, 6060, .inl f4_))] t) (va_A [(h, oX11 th aw ai ab ac hi re aP ta po en be de fa a5 sp av an ak ne aW aC ag aT aN aF), (aw, .inl (cI, 2179, .inl fw)), (aP, .inl (cB, 400, .inl ft)), (ac, .inl (cI, 6060, .inl fc))] sz)) 0 0 (va_A [(h, oX11 th aw ai ab ac hi re aP ta po en be de fa a5 sp av an ak ne aW aC ag aT aN aF), (aw, .inl (cI, 2179, .inl fw)), (aP, .inl (cB, 400, .inl ft)), (ac, .inl (cI, 6060, .inl fc))] sz) := by
  refine Met.ofW (cc := cX11_hang) (maxL := 7) (ret := (some .int)) (by decide) rfl ?_
  intro p e s m args below meth c s₁ B hml hv
  obtain ⟨rfl, hsz, hN, hE, hP, hK, hD0⟩ := hv
  have hx := B.exec
  have hb := B.bytes
  have hr := B.returns
  have hts := fun (w : Cond) (h : w ∈ kG) => atoms_spec (ws := kwX11_hang) B.pre w (List.mem_cons_of_mem _ h)
  have hown : s.vm.findClass RX11 = some m.cls := findClass_of_methodNamed B.named
  subst hsz
  have hD := hD0.self (sz := s.heap.size)
  generalize hAe : va_A [(h, oX11 th aw ai ab ac hi re aP ta po en be de fa a5 sp av an ak ne aW aC ag aT aN aF), (aw, .inl (cI, 2179, .inl fw)), (aP, .inl (cB, 400, .inl ft)), (ac, .inl (cI, 6060, .inl fc))] s.heap.size = A at hD hE ⊢
  have hA : ∀ q : Nat, s.heap.size ≤ q → A q := fun q h => by rw [← hAe]; exact Or.inr h
  have hl := lv_entry ([.ref h]) (n := 7) (Nat.le_of_ble_eq_true rfl)
  rw [lg_entry_eq]
  generalize (lg_sl ([.ref h]) ++ List.replicate (7 - (lg_sl ([.ref h])).length) Slot.unset).toArray = ls at hl ⊢
  have hl : lv_has ls 7 [(0, .ref h)] := hl
  obtain ⟨H, hH0⟩ : ∃ H, H = s.heap := ⟨_, rfl⟩
  have hS : va_S A s.heap H [] := by rw [hH0]; exact va_S.rf
  have hP : va_P D vwCl [(h, oX11 th aw ai ab ac hi re aP ta po en be de fa a5 sp av an ak ne aW aC ag aT aN aF), (aw, .inl (cI, 2179, .inl fw)), (aP, .inl (cB, 400, .inl ft)), (ac, .inl (cI, 6060, .inl fc))] H := by rw [hH0]; exact hP
  refine kHeap hH0 ?_
  clear hH0
  refine lv_aload_n hx hb dX11_hang_0 rfl (lv_at hl 0 rfl) ?_
  refine kcallv (wc := [(h, oX11 th aw ai ab ac hi re aP ta po en be de fa a5 sp av an ak ne aW aC ag aT aN aF)]) (wr := [(aw, .inl (cI, 2179, .inl fw)), (aP, .inl (cB, 400, .inl ft)), (ac, .inl (cI, 6060, .inl fc))]) hP hD hS hA [0] [1, 2, 3] rfl rfl (by decide) (by decide) (by decide) (fun hPc hDc hFc => va_runV (As := []) (rest := []) ⟨hx, hb, hml, hown, hts⟩ (r_uses l D cI cJ cB cC h th aw ai ab ac hi re aP ta po en be de fa a5 sp av an ak ne aW aC ag aT aN aF H.size H_ta) (cwV 0 hts gX11_hang_X11_uses rfl rfl rfl ⟨rfl, hdX11_uses⟩ ⟨Nat.le_of_ble_eq_true rfl, Nat.le_of_ble_eq_true rfl⟩) ⟨kBlind, va_recv hK hPc (ci := 10) (q0 := 0) rfl rfl, fun U hU hW => ⟨rfl, by rw [hU], hN.warm hW, hE.pass hS hFc hW hU, by rw [hU]; exact hPc, va_K.moved hW.alike hK, hDc⟩⟩ rfl rfl hl.1 rfl (lv_room (Nat.le_of_ble_eq_true rfl)) dX11_hang_1 ⟨Nat.le_of_ble_eq_true rfl, Nat.le_of_ble_eq_true rfl⟩) (fun u H locs hw hP hD hS => ?_)
  have hP : va_P D vwCl [(aw, .inl (cI, 2179, .inl fw)), (aP, .inl (cB, 400, .inl ft)), (ac, .inl (cI, 6060, .inl fc)), (h, oX11 0 aw ai ab ac hi re aP 0 0 ta be de fa a5 sp av an ak ne aW aC ag aT aN aF)] H := hP
  have hD : va_D A [(aw, .inl (cI, 2179, .inl fw)), (aP, .inl (cB, 400, .inl ft)), (ac, .inl (cI, 6060, .inl fc)), (h, oX11 0 aw ai ab ac hi re aP 0 0 ta be de fa a5 sp av an ak ne aW aC ag aT aN aF)] := hD
  refine lv_iconst (v := 0) hx hb dX11_hang_4 (by decide) ?_
  refine lv_istore_n (lv' := [(1, .int 0), (0, .ref h)]) hx hb dX11_hang_5 rfl hl (by decide) rfl (fun ls hl => ?_)
  refine lv_iconst (v := 1) hx hb dX11_hang_6 (by decide) ?_
  refine lv_istore_n (lv' := [(2, .int 1), (1, .int 0), (0, .ref h)]) hx hb dX11_hang_7 rfl hl (by decide) rfl (fun ls hl => ?_)
  refine lv_iconst (v := 0) hx hb dX11_hang_8 (by decide) ?_
  refine lv_istore_n (lv' := [(3, .int 0), (2, .int 1), (1, .int 0), (0, .ref h)]) hx hb dX11_hang_9 rfl hl (by decide) rfl (fun ls hl => ?_)
  refine lv_iconst (v := 0) hx hb dX11_hang_10 (by decide) ?_
  refine lv_istore (lv' := [(4, .int 0), (3, .int 0), (2, .int 1), (1, .int 0), (0, .ref h)]) hx hb dX11_hang_11 hl (by decide) rfl (fun ls hl => ?_)
  refine k_loop (hd := 13) (fun (u : Int32 × Int32 × Int32 × Int32) => match u with | (y965, y966, y967, y968) => (400 - (y965).toInt).toNat) (fun (u : Int32 × Int32 × Int32 × Int32) (H : Heap) (locs : List Loc) (ls : Array Slot) => match u with | (y965, y966, y967, y968) => ((y967 : Int32).toInt = 0 ∨ ∀ j : Nat, (j : Int) < (y965 : Int32).toInt → Rg (ft j) 97 108) ∧ Rg y965 0 400 ∧ Rg y966 0 1 ∧ Rg y967 0 1 ∧ Rg y968 0 4095 ∧ va_P D vwCl [(aw, .inl (cI, 2179, .inl fw)), (aP, .inl (cB, 400, .inl ft)), (ac, .inl (cI, 6060, .inl fc)), (h, oX11 0 aw ai ab ac hi re aP 0 0 ta be de fa a5 sp av an ak ne aW aC ag aT aN aF)] H ∧ va_D A [(aw, .inl (cI, 2179, .inl fw)), (aP, .inl (cB, 400, .inl ft)), (ac, .inl (cI, 6060, .inl fc)), (h, oX11 0 aw ai ab ac hi re aP 0 0 ta be de fa a5 sp av an ak ne aW aC ag aT aN aF)] ∧ va_S A s.heap H locs ∧ lv_has ls 7 [(4, .int y965), (3, .int y966), (2, .int y967), (1, .int y968), (0, .ref h)]) ((0 : Int32), (0 : Int32), (1 : Int32), (0 : Int32)) ⟨(Or.inr (fun j hj => by have q1 : (0 : Int32).toInt = 0 := (by decide); omega)), (rg_w (rg_lit (n := 0) (by decide)) (by decide)), (rg_w (rg_lit (n := 0) (by decide)) (by decide)), (rg_w (rg_lit (n := 1) (by decide)) (by decide)), (rg_w (rg_lit (n := 0) (by decide)) (by decide)), hP.sub (ws' := [(aw, .inl (cI, 2179, .inl fw)), (aP, .inl (cB, 400, .inl ft)), (ac, .inl (cI, 6060, .inl fc)), (h, oX11 0 aw ai ab ac hi re aP 0 0 ta be de fa a5 sp av an ak ne aW aC ag aT aN aF)]) [0, 1, 2, 3] rfl, hD.sub (ws' := [(aw, .inl (cI, 2179, .inl fw)), (aP, .inl (cB, 400, .inl ft)), (ac, .inl (cI, 6060, .inl fc)), (h, oX11 0 aw ai ab ac hi re aP 0 0 ta be de fa a5 sp av an ak ne aW aC ag aT aN aF)]) [0, 1, 2, 3] (by decide) rfl, hS, lv_sub (l' := [(4, .int 0), (3, .int 0), (2, .int 1), (1, .int 0), (0, .ref h)]) hl [0, 1, 2, 3, 4] rfl⟩ (fun u H locs ls hI ih969 => ?_)
  clear hP hD hS hl
  obtain ⟨y965, y966, y967, y968⟩ := u
  obtain ⟨hX13_0, hy965, hy966, hy967, hy968, hP, hD, hS, hl⟩ := hI
  have hP : va_P D vwCl [(aw, .inl (cI, 2179, .inl fw)), (aP, .inl (cB, 400, .inl ft)), (ac, .inl (cI, 6060, .inl fc)), (h, oX11 0 aw ai ab ac hi re aP 0 0 ta be de fa a5 sp av an ak ne aW aC ag aT aN aF)] H := hP
  have hD : va_D A [(aw, .inl (cI, 2179, .inl fw)), (aP, .inl (cB, 400, .inl ft)), (ac, .inl (cI, 6060, .inl fc)), (h, oX11 0 aw ai ab ac hi re aP 0 0 ta be de fa a5 sp av an ak ne aW aC ag aT aN aF)] := hD
  have hl : lv_has ls 7 [(4, .int y965), (3, .int y966), (2, .int y967), (1, .int y968), (0, .ref h)] := hl
  refine lv_iload hx hb dX11_hang_13 (lv_at hl 0 rfl) ?_
  refine lv_aload_n hx hb dX11_hang_15 rfl (lv_at hl 4 rfl) ?_
  refine va_get (D := D) (ci := 10) (v := .int ta) (C := RX11) (T := TX11) (N := 26) hx hb hts iG_X11 hown hK hP 3 rfl rfl 10 (by decide) (hts _ w18_6) (fun _ h9 => h9) rfl dX11_hang_16 ?_
  refine lv_icmp_ge (tgt := 107) hx hb dX11_hang_19 (by decide) (fun c1028 => ?_) (fun c1028 => ?_)
  · skip
    refine lv_aload_n hx hb dX11_hang_107 rfl (lv_at hl 4 rfl) ?_
    refine lv_iload_n hx hb dX11_hang_108 rfl (lv_at hl 2 rfl) ?_
    refine lv_if_ne (tgt := 116) hx hb dX11_hang_109 (by decide) (fun c1032 => ?_) (fun c1032 => ?_)
    · skip
      have k1033 : Rg y967 1 1 := rg_n1 (neI c1032) hy967 (rg_lit (n := 0) (by decide)) (by decide)
      refine lv_iconst (v := 0) hx hb dX11_hang_116 (by decide) ?_
      refine lv_iconst (v := 1) hx hb dX11_hang_117 (by decide) ?_
      refine kpurei (wc := [(h, oX11 0 aw ai ab ac hi re aP 0 0 ta be de fa a5 sp av an ak ne aW aC ag aT aN aF)]) hP hD hS hA [3] rfl (by decide) (fun hPc hDc hFc => va_runV (As := [.int 0, .int 1]) (rest := []) ⟨hx, hb, hml, hown, hts⟩ (r_throwsIf0_1 l D cI cJ cB cC h 0 aw ai ab ac hi re aP 0 0 ta be de fa a5 sp av an ak ne aW aC ag aT aN aF 1 H.size) (cwV 2 hts gX11_hang_X11_throwsIf rfl rfl rfl ⟨rfl, hdX11_throwsIf⟩ ⟨Nat.le_of_ble_eq_true rfl, Nat.le_of_ble_eq_true rfl⟩) ⟨kBlind, va_recv hK hPc (ci := 10) (q0 := 0) rfl rfl, fun U hU hW => ⟨rfl, by rw [hU], hN.warm hW, hE.pass hS hFc hW hU, by rw [hU]; exact hPc, va_K.moved hW.alike hK, hDc⟩⟩ rfl rfl hl.1 rfl (lv_room (Nat.le_of_ble_eq_true rfl)) dX11_hang_118 ⟨Nat.le_of_ble_eq_true rfl, Nat.le_of_ble_eq_true rfl⟩) (fun r1034 u H locs hw hP hS => ?_)
      have k1035 := hw
      refine lv_if_ne (tgt := 133) hx hb dX11_hang_121 (by decide) (fun c1756 => absurd (rg_eq k1035 (rg_lit (n := 0) (by decide)) (by decide)) c1756) (fun _ => ?_)
      refine lv_aload_n hx hb dX11_hang_124 rfl (lv_at hl 4 rfl) ?_
      refine lv_iload_n hx hb dX11_hang_125 rfl (lv_at hl 1 rfl) ?_
      refine lv_iconst (v := 2) hx hb dX11_hang_126 (by decide) ?_
      refine kcalli (wc := [(h, oX11 0 aw ai ab ac hi re aP 0 0 ta be de fa a5 sp av an ak ne aW aC ag aT aN aF)]) (wr := [(aw, .inl (cI, 2179, .inl fw)), (aP, .inl (cB, 400, .inl ft)), (ac, .inl (cI, 6060, .inl fc))]) hP hD hS hA [3] [0, 1, 2] rfl rfl (by decide) (by decide) (by decide) (fun hPc hDc hFc => va_runV (As := [.int y966, .int 2]) (rest := []) ⟨hx, hb, hml, hown, hts⟩ (r_throwsIfv l D cI cJ cB cC h 0 aw ai ab ac hi re aP 0 0 ta be de fa a5 sp av an ak ne aW aC ag aT aN aF y966 2 H.size hy966) (cwV 2 hts gX11_hang_X11_throwsIf rfl rfl rfl ⟨rfl, hdX11_throwsIf⟩ ⟨Nat.le_of_ble_eq_true rfl, Nat.le_of_ble_eq_true rfl⟩) ⟨kBlind, va_recv hK hPc (ci := 10) (q0 := 0) rfl rfl, fun U hU hW => ⟨rfl, by rw [hU], hN.warm hW, hE.pass hS hFc hW hU, by rw [hU]; exact hPc, va_K.moved hW.alike hK, hDc⟩⟩ rfl rfl hl.1 rfl (lv_room (Nat.le_of_ble_eq_true rfl)) dX11_hang_127 ⟨Nat.le_of_ble_eq_true rfl, Nat.le_of_ble_eq_true rfl⟩) (fun r1757 u H locs hw hP hD hS => ?_)
      obtain ⟨x1758, rfl⟩ : ∃ z, z = u := ⟨_, rfl⟩
      have hP : va_P D vwCl [(aw, .inl (cI, 2179, .inl fw)), (aP, .inl (cB, 400, .inl ft)), (ac, .inl (cI, 6060, .inl fc)), (h, oX11 x1758 aw ai ab ac hi re aP 0 0 ta be de fa a5 sp av an ak ne aW aC ag aT aN aF)] H := hP
      have hD : va_D A [(aw, .inl (cI, 2179, .inl fw)), (aP, .inl (cB, 400, .inl ft)), (ac, .inl (cI, 6060, .inl fc)), (h, oX11 x1758 aw ai ab ac hi re aP 0 0 ta be de fa a5 sp av an ak ne aW aC ag aT aN aF)] := hD
      have k1759 := hw
      refine lv_if_eq (tgt := 135) hx hb dX11_hang_130 (by decide) (fun c1760 => ?_) (fun c1760 => ?_)
      · skip
        have k1761 : Rg r1757 0 0 := rg_q1 (eqI c1760) k1759 (rg_lit (n := 0) (by decide)) (by decide)
        refine lv_aload_n hx hb dX11_hang_135 rfl (lv_at hl 4 rfl) ?_
        have hHT : ∀ j : Nat, (j : Int) < (ta : Int32).toInt → Rg (ft j) 97 108 := fun j hj => ((hX13_0).resolve_left (by have q1 := neI c1032; have q2 : (0 : Int32).toInt = 0 := (by decide); omega)) j (by have q2 := (leI c1028); omega)
        refine kcallv (wc := [(h, oX11 x1758 aw ai ab ac hi re aP 0 0 ta be de fa a5 sp av an ak ne aW aC ag aT aN aF), (aw, .inl (cI, 2179, .inl fw)), (ac, .inl (cI, 6060, .inl fc))]) (wr := [(aP, .inl (cB, 400, .inl ft))]) hP hD hS hA [3, 0, 2] [1] rfl rfl (by decide) (by decide) (by decide) (fun hPc hDc hFc => va_runV (As := []) (rest := []) ⟨hx, hb, hml, hown, hts⟩ (r_remembers l D cI cJ cB cC h x1758 aw ai ab ac hi re aP 0 0 ta be de fa a5 sp av an ak ne aW aC ag aT aN aF fw fc H.size H_re H_fw_W H_fw_B H_fw_L H_fc_C) (cwV 0 hts gX11_hang_X11_remembers rfl rfl rfl ⟨rfl, hdX11_remembers⟩ ⟨Nat.le_of_ble_eq_true rfl, Nat.le_of_ble_eq_true rfl⟩) ⟨kBlind, va_recv hK hPc (ci := 10) (q0 := 0) rfl rfl, fun U hU hW => ⟨rfl, by rw [hU], hN.warm hW, hE.pass hS hFc hW hU, by rw [hU]; exact hPc, va_K.moved hW.alike hK, hDc⟩⟩ rfl rfl hl.1 rfl (lv_room (Nat.le_of_ble_eq_true rfl)) dX11_hang_136 ⟨Nat.le_of_ble_eq_true rfl, Nat.le_of_ble_eq_true rfl⟩) (fun u H locs hw hP hD hS => ?_)
        obtain ⟨x1762, g1763⟩ := u
        have hP : va_P D vwCl [(aP, .inl (cB, 400, .inl ft)), (h, oX11 x1758 aw ai ab ac hi x1762 aP 0 0 ta be de fa a5 sp av an ak ne aW aC ag aT aN aF), (aw, .inl (cI, 2179, .inl fw)), (ac, .inl (cI, 6060, .inl g1763))] H := hP
        have hD : va_D A [(aP, .inl (cB, 400, .inl ft)), (h, oX11 x1758 aw ai ab ac hi x1762 aP 0 0 ta be de fa a5 sp av an ak ne aW aC ag aT aN aF), (aw, .inl (cI, 2179, .inl fw)), (ac, .inl (cI, 6060, .inl g1763))] := hD
        obtain ⟨k1764, k1765⟩ := hw
        refine lv_iconst (v := 0) hx hb dX11_hang_139 (by decide) ?_
        refine lv_istore (lv' := [(4, .int 0), (3, .int y966), (2, .int y967), (1, .int y968), (0, .ref h)]) hx hb dX11_hang_140 hl (by decide) rfl (fun ls hl => ?_)
        refine lv_iconst (v := 0) hx hb dX11_hang_142 (by decide) ?_
        refine lv_istore (lv' := [(5, .int 0), (4, .int 0), (3, .int y966), (2, .int y967), (1, .int y968), (0, .ref h)]) hx hb dX11_hang_143 hl (by decide) rfl (fun ls hl => ?_)
        refine k_loop (hd := 145) (fun (u : Int32 × Int32 × (Nat → Int32)) => match u with | (y2433, y2434, g2435) => (400 - (y2433).toInt).toNat) (fun (u : Int32 × Int32 × (Nat → Int32)) (H : Heap) (locs : List Loc) (ls : Array Slot) => match u with | (y2433, y2434, g2435) => Rg y2433 0 400 ∧ wB g2435 ∧ wL g2435 ∧ wW g2435 ∧ va_P D vwCl [(aP, .inl (cB, 400, .inl ft)), (h, oX11 x1758 aw ai ab ac hi x1762 aP 0 0 ta be de fa a5 sp av an ak ne aW aC ag aT aN aF), (aw, .inl (cI, 2179, .inl g2435)), (ac, .inl (cI, 6060, .inl g1763))] H ∧ va_D A [(aP, .inl (cB, 400, .inl ft)), (h, oX11 x1758 aw ai ab ac hi x1762 aP 0 0 ta be de fa a5 sp av an ak ne aW aC ag aT aN aF), (aw, .inl (cI, 2179, .inl g2435)), (ac, .inl (cI, 6060, .inl g1763))] ∧ va_S A s.heap H locs ∧ lv_has ls 7 [(5, .int y2433), (4, .int y2434), (3, .int y966), (2, .int y967), (1, .int y968), (0, .ref h)]) ((0 : Int32), (0 : Int32), fw) ⟨(rg_w (rg_lit (n := 0) (by decide)) (by decide)), H_fw_B, H_fw_L, H_fw_W, hP.sub (ws' := [(aP, .inl (cB, 400, .inl ft)), (h, oX11 x1758 aw ai ab ac hi x1762 aP 0 0 ta be de fa a5 sp av an ak ne aW aC ag aT aN aF), (aw, .inl (cI, 2179, .inl fw)), (ac, .inl (cI, 6060, .inl g1763))]) [0, 1, 2, 3] rfl, hD.sub (ws' := [(aP, .inl (cB, 400, .inl ft)), (h, oX11 x1758 aw ai ab ac hi x1762 aP 0 0 ta be de fa a5 sp av an ak ne aW aC ag aT aN aF), (aw, .inl (cI, 2179, .inl fw)), (ac, .inl (cI, 6060, .inl g1763))]) [0, 1, 2, 3] (by decide) rfl, hS, lv_sub (l' := [(5, .int 0), (4, .int 0), (3, .int y966), (2, .int y967), (1, .int y968), (0, .ref h)]) hl [0, 1, 2, 3, 4, 5] rfl⟩ (fun u H locs ls hI ih2436 => ?_)
        clear hP hD hS hl
        obtain ⟨y2433, y2434, g2435⟩ := u
        obtain ⟨hy2433, hg2435_0, hg2435_1, hg2435_2, hP, hD, hS, hl⟩ := hI
        have hP : va_P D vwCl [(aP, .inl (cB, 400, .inl ft)), (h, oX11 x1758 aw ai ab ac hi x1762 aP 0 0 ta be de fa a5 sp av an ak ne aW aC ag aT aN aF), (aw, .inl (cI, 2179, .inl g2435)), (ac, .inl (cI, 6060, .inl g1763))] H := hP
        have hD : va_D A [(aP, .inl (cB, 400, .inl ft)), (h, oX11 x1758 aw ai ab ac hi x1762 aP 0 0 ta be de fa a5 sp av an ak ne aW aC ag aT aN aF), (aw, .inl (cI, 2179, .inl g2435)), (ac, .inl (cI, 6060, .inl g1763))] := hD
        have hl : lv_has ls 7 [(5, .int y2433), (4, .int y2434), (3, .int y966), (2, .int y967), (1, .int y968), (0, .ref h)] := hl
        refine lv_iload hx hb dX11_hang_145 (lv_at hl 0 rfl) ?_
        refine lv_aload_n hx hb dX11_hang_147 rfl (lv_at hl 5 rfl) ?_
        refine va_get (D := D) (ci := 10) (v := .int ta) (C := RX11) (T := TX11) (N := 26) hx hb hts iG_X11 hown hK hP 1 rfl rfl 10 (by decide) (hts _ w18_6) (fun _ h9 => h9) rfl dX11_hang_148 ?_
        refine lv_icmp_ge (tgt := 211) hx hb dX11_hang_151 (by decide) (fun c2437 => ?_) (fun c2437 => ?_)
        · skip
          refine lv_iload hx hb dX11_hang_211 (lv_at hl 1 rfl) ?_
          have hP9 := hP.sub (ws' := [(h, oX11 x1758 aw ai ab ac hi x1762 aP 0 0 ta be de fa a5 sp av an ak ne aW aC ag aT aN aF), (aw, .inl (cI, 2179, .inl g2435)), (aP, .inl (cB, 400, .inl ft)), (ac, .inl (cI, 6060, .inl g1763))]) [1, 2, 0, 3] rfl
          have hD9 := hD.sub (ws' := [(h, oX11 x1758 aw ai ab ac hi x1762 aP 0 0 ta be de fa a5 sp av an ak ne aW aC ag aT aN aF), (aw, .inl (cI, 2179, .inl g2435)), (aP, .inl (cB, 400, .inl ft)), (ac, .inl (cI, 6060, .inl g1763))]) [1, 2, 0, 3] (by decide) rfl
          exact W.iret (v := y2434) hx hb hr (fun t ht hW => ⟨⟨y2434, (x1758, x1762, ta, g2435, g1763), rfl, ⟨(rg_w k1764 (by decide)), H_ta, hg2435_0, hg2435_1, hg2435_2, k1765⟩, by rw [ht]; exact hP9, va_K.moved hW.alike hK, hD9⟩, hS.F ht⟩) hS.2.2 dX11_hang_213
        · skip
          have k2438 : Rg y2433 0 399 := rg_l1 (nleI c2437) hy2433 H_ta (by decide)
          have k2439 : Rg ta 1 400 := rg_l2 (nleI c2437) hy2433 H_ta (by decide)
          refine lv_aload_n hx hb dX11_hang_154 rfl (lv_at hl 5 rfl) ?_
          refine va_get (D := D) (ci := 10) (v := .ref aP) (C := RX11) (T := TX11) (N := 26) hx hb hts iG_X11 hown hK hP 1 rfl rfl 7 (by decide) (hts _ w5_8) (fun _ h9 => h9) rfl dX11_hang_155 ?_
          refine lv_iload hx hb dX11_hang_158 (lv_at hl 0 rfl) ?_
          refine va_bald hx hb hK hP 0 2 rfl rfl (rg_in k2438 (by decide)) dX11_hang_160 ?_
          refine lv_topi (fun x2440 ex2440 => ?_)
          have k2441 : Rg x2440 97 108 := (by rw [ex2440, cl_of (k := cN y2433) k2438 (by decide) (by simp only [cN]; have q1 := k2438; unfold Rg at q1; omega)]; exact hHT (cN y2433) (by simp only [cN]; have q1 := k2438; have q2 := (nleI c2437); unfold Rg at *; omega))
          refine lv_bipush (v := 97) hx hb dX11_hang_161 (by decide) ?_
          refine lv_isub hx hb dX11_hang_163 ?_
          refine lv_topi (fun x2442 ex2442 => ?_)
          have tx2442 : x2442.toInt = x2440.toInt - 97 := ti_sub ex2442 k2441 (rg_lit (n := 97) (by decide)) (by decide) rfl (by decide)
          have k2443 : Rg x2442 0 11 := rg_sub ex2442 k2441 (rg_lit (n := 97) (by decide)) (by decide)
          refine lv_istore (lv' := [(6, .int x2442), (5, .int y2433), (4, .int y2434), (3, .int y966), (2, .int y967), (1, .int y968), (0, .ref h)]) hx hb dX11_hang_164 hl (by decide) rfl (fun ls hl => ?_)
          refine lv_aload_n hx hb dX11_hang_166 rfl (lv_at hl 6 rfl) ?_
          refine lv_iload hx hb dX11_hang_167 (lv_at hl 0 rfl) ?_
          refine lv_iconst (v := 0) hx hb dX11_hang_169 (by decide) ?_
          refine kpurei (wc := [(h, oX11 x1758 aw ai ab ac hi x1762 aP 0 0 ta be de fa a5 sp av an ak ne aW aC ag aT aN aF), (aw, .inl (cI, 2179, .inl g2435))]) hP hD hS hA [1, 2] rfl (by decide) (fun hPc hDc hFc => va_runV (As := [.int x2442, .int 0]) (rest := []) ⟨hx, hb, hml, hown, hts⟩ (r_of0 l D cI cJ cB cC h x1758 aw ai ab ac hi x1762 aP 0 0 ta be de fa a5 sp av an ak ne aW aC ag aT aN aF g2435 x2442 H.size k2443 hg2435_2) (cwV 2 hts gX11_hang_X11_of rfl rfl rfl ⟨rfl, hdX11_of⟩ ⟨Nat.le_of_ble_eq_true rfl, Nat.le_of_ble_eq_true rfl⟩) ⟨kBlind, va_recv hK hPc (ci := 10) (q0 := 0) rfl rfl, fun U hU hW => ⟨rfl, by rw [hU], hN.warm hW, hE.pass hS hFc hW hU, by rw [hU]; exact hPc, va_K.moved hW.alike hK, hDc⟩⟩ rfl rfl hl.1 rfl (lv_room (Nat.le_of_ble_eq_true rfl)) dX11_hang_170 ⟨Nat.le_of_ble_eq_true rfl, Nat.le_of_ble_eq_true rfl⟩) (fun r2444 u H locs hw hP hS => ?_)
          have k2445 := hw
          refine k_join (hd := 205) (cells2 := 0) (slots2 := 0) (fun (u : Int32 × (Nat → Int32)) => match u with | (y2474, g2475) => []) (fun (u : Int32 × (Nat → Int32)) (H : Heap) (locs : List Loc) (ls : Array Slot) => match u with | (y2474, g2475) => wB g2475 ∧ wL g2475 ∧ wW g2475 ∧ va_P D vwCl [(aP, .inl (cB, 400, .inl ft)), (h, oX11 x1758 aw ai ab ac hi x1762 aP 0 0 ta be de fa a5 sp av an ak ne aW aC ag aT aN aF), (aw, .inl (cI, 2179, .inl g2475)), (ac, .inl (cI, 6060, .inl g1763))] H ∧ va_D A [(aP, .inl (cB, 400, .inl ft)), (h, oX11 x1758 aw ai ab ac hi x1762 aP 0 0 ta be de fa a5 sp av an ak ne aW aC ag aT aN aF), (aw, .inl (cI, 2179, .inl g2475)), (ac, .inl (cI, 6060, .inl g1763))] ∧ va_S A s.heap H locs ∧ lv_has ls 7 [(6, .int x2442), (5, .int y2433), (4, .int y2474), (3, .int y966), (2, .int y967), (1, .int y968), (0, .ref h)]) (fun u H locs ls hI => ?_) (fun hJ205 => ?_)
          · skip
            clear hP hD hS hl
            obtain ⟨y2474, g2475⟩ := u
            obtain ⟨hg2475_0, hg2475_1, hg2475_2, hP, hD, hS, hl⟩ := hI
            have hP : va_P D vwCl [(aP, .inl (cB, 400, .inl ft)), (h, oX11 x1758 aw ai ab ac hi x1762 aP 0 0 ta be de fa a5 sp av an ak ne aW aC ag aT aN aF), (aw, .inl (cI, 2179, .inl g2475)), (ac, .inl (cI, 6060, .inl g1763))] H := hP
            have hD : va_D A [(aP, .inl (cB, 400, .inl ft)), (h, oX11 x1758 aw ai ab ac hi x1762 aP 0 0 ta be de fa a5 sp av an ak ne aW aC ag aT aN aF), (aw, .inl (cI, 2179, .inl g2475)), (ac, .inl (cI, 6060, .inl g1763))] := hD
            have hl : lv_has ls 7 [(6, .int x2442), (5, .int y2433), (4, .int y2474), (3, .int y966), (2, .int y967), (1, .int y968), (0, .ref h)] := hl
            obtain ⟨x2476, ex2476⟩ : ∃ y : Int32, y = y2433 + 1 := ⟨_, rfl⟩
            refine lv_iinc (v := x2476) (lv' := [(5, .int x2476), (6, .int x2442), (4, .int y2474), (3, .int y966), (2, .int y967), (1, .int y968), (0, .ref h)]) hx hb dX11_hang_205 hl (k := 1) rfl (by rw [ex2476]; rfl) (by decide) rfl (fun ls hl => ?_)
            have k2477 : Rg x2476 1 400 := rg_add ex2476 k2438 (rg_lit (n := 1) (by decide)) (by decide)
            refine lv_goto (tgt := 145) hx hb dX11_hang_208 (by decide) ?_
            exact ih2436 (x2476, y2474, g2475) _ _ _ (by show (400 - (x2476).toInt).toNat < (400 - (y2433).toInt).toNat; exact mu_up ex2476 k2438 k2477 (by decide)) ⟨(rg_w k2477 (by decide)), hg2475_0, hg2475_1, hg2475_2, hP.sub (ws' := [(aP, .inl (cB, 400, .inl ft)), (h, oX11 x1758 aw ai ab ac hi x1762 aP 0 0 ta be de fa a5 sp av an ak ne aW aC ag aT aN aF), (aw, .inl (cI, 2179, .inl g2475)), (ac, .inl (cI, 6060, .inl g1763))]) [0, 1, 2, 3] rfl, hD.sub (ws' := [(aP, .inl (cB, 400, .inl ft)), (h, oX11 x1758 aw ai ab ac hi x1762 aP 0 0 ta be de fa a5 sp av an ak ne aW aC ag aT aN aF), (aw, .inl (cI, 2179, .inl g2475)), (ac, .inl (cI, 6060, .inl g1763))]) [0, 1, 2, 3] (by decide) rfl, hS, lv_sub (l' := [(5, .int x2476), (4, .int y2474), (3, .int y966), (2, .int y967), (1, .int y968), (0, .ref h)]) hl [0, 2, 3, 4, 5, 6] rfl⟩
          refine lv_if_ne (tgt := 205) hx hb dX11_hang_173 (by decide) (fun c2478 => ?_) (fun c2478 => ?_)
          · skip
            exact hJ205 (y2434, g2435) _ _ _ ⟨hg2435_0, hg2435_1, hg2435_2, hP.sub (ws' := [(aP, .inl (cB, 400, .inl ft)), (h, oX11 x1758 aw ai ab ac hi x1762 aP 0 0 ta be de fa a5 sp av an ak ne aW aC ag aT aN aF), (aw, .inl (cI, 2179, .inl g2435)), (ac, .inl (cI, 6060, .inl g1763))]) [0, 1, 2, 3] rfl, hD.sub (ws' := [(aP, .inl (cB, 400, .inl ft)), (h, oX11 x1758 aw ai ab ac hi x1762 aP 0 0 ta be de fa a5 sp av an ak ne aW aC ag aT aN aF), (aw, .inl (cI, 2179, .inl g2435)), (ac, .inl (cI, 6060, .inl g1763))]) [0, 1, 2, 3] (by decide) rfl, hS, lv_sub (l' := [(6, .int x2442), (5, .int y2433), (4, .int y2434), (3, .int y966), (2, .int y967), (1, .int y968), (0, .ref h)]) hl [0, 1, 2, 3, 4, 5, 6] rfl⟩
          · skip
            have k2479 : Rg r2444 0 0 := rg_q1 (eqI c2478) (rg_any r2444) (rg_lit (n := 0) (by decide)) (by decide)
            refine lv_aload_n hx hb dX11_hang_176 rfl (lv_at hl 6 rfl) ?_
            refine lv_iload hx hb dX11_hang_177 (lv_at hl 0 rfl) ?_
            refine lv_iload hx hb dX11_hang_179 (lv_at hl 1 rfl) ?_
            refine lv_iconst (v := 1) hx hb dX11_hang_181 (by decide) ?_
            refine lv_isub hx hb dX11_hang_182 ?_
            refine lv_topi (fun x2480 ex2480 => ?_)
            have tx2480 : x2480.toInt = y2433.toInt - 1 := ti_sub ex2480 k2438 (rg_lit (n := 1) (by decide)) (by decide) rfl (by decide)
            have k2481 : Rg x2480 (-1) 398 := rg_sub ex2480 k2438 (rg_lit (n := 1) (by decide)) (by decide)
            refine kcalli (wc := [(h, oX11 x1758 aw ai ab ac hi x1762 aP 0 0 ta be de fa a5 sp av an ak ne aW aC ag aT aN aF), (aw, .inl (cI, 2179, .inl g2435)), (aP, .inl (cB, 400, .inl ft))]) (wr := [(ac, .inl (cI, 6060, .inl g1763))]) hP hD hS hA [1, 2, 0] [3] rfl rfl (by decide) (by decide) (by decide) (fun hPc hDc hFc => va_runV (As := [.int x2442, .int x2480]) (rest := []) ⟨hx, hb, hml, hown, hts⟩ (r_runsFrom l D cI cJ cB cC h x1758 aw ai ab ac hi x1762 aP 0 0 ta be de fa a5 sp av an ak ne aW aC ag aT aN aF g2435 ft x2442 x2480 H.size k2443 (rg_w k2439 (by decide)) hg2435_2 hg2435_0 hg2435_1 hHT) (cwV 2 hts gX11_hang_X11_runsFrom rfl rfl rfl ⟨rfl, hdX11_runsFrom⟩ ⟨Nat.le_of_ble_eq_true rfl, Nat.le_of_ble_eq_true rfl⟩) ⟨kBlind, va_recv hK hPc (ci := 10) (q0 := 0) rfl rfl, fun U hU hW => ⟨rfl, by rw [hU], hN.warm hW, hE.pass hS hFc hW hU, by rw [hU]; exact hPc, va_K.moved hW.alike hK, hDc⟩⟩ rfl rfl hl.1 rfl (lv_room (Nat.le_of_ble_eq_true rfl)) dX11_hang_183 ⟨Nat.le_of_ble_eq_true rfl, Nat.le_of_ble_eq_true rfl⟩) (fun r2482 u H locs hw hP hD hS => ?_)
            obtain ⟨g2483, rfl⟩ : ∃ z, z = u := ⟨_, rfl⟩
            have hP : va_P D vwCl [(ac, .inl (cI, 6060, .inl g1763)), (h, oX11 x1758 aw ai ab ac hi x1762 aP 0 0 ta be de fa a5 sp av an ak ne aW aC ag aT aN aF), (aw, .inl (cI, 2179, .inl g2483)), (aP, .inl (cB, 400, .inl ft))] H := hP
            have hD : va_D A [(ac, .inl (cI, 6060, .inl g1763)), (h, oX11 x1758 aw ai ab ac hi x1762 aP 0 0 ta be de fa a5 sp av an ak ne aW aC ag aT aN aF), (aw, .inl (cI, 2179, .inl g2483)), (aP, .inl (cB, 400, .inl ft))] := hD
            obtain ⟨k2484, k2485, k2486, k2487⟩ := hw
            refine k_join (hd := 202) (cells2 := 0) (slots2 := 0) (fun (g2503 : (Nat → Int32)) => []) (fun (g2503 : (Nat → Int32)) (H : Heap) (locs : List Loc) (ls : Array Slot) => wB g2503 ∧ wL g2503 ∧ wW g2503 ∧ va_P D vwCl [(ac, .inl (cI, 6060, .inl g1763)), (h, oX11 x1758 aw ai ab ac hi x1762 aP 0 0 ta be de fa a5 sp av an ak ne aW aC ag aT aN aF), (aw, .inl (cI, 2179, .inl g2503)), (aP, .inl (cB, 400, .inl ft))] H ∧ va_D A [(ac, .inl (cI, 6060, .inl g1763)), (h, oX11 x1758 aw ai ab ac hi x1762 aP 0 0 ta be de fa a5 sp av an ak ne aW aC ag aT aN aF), (aw, .inl (cI, 2179, .inl g2503)), (aP, .inl (cB, 400, .inl ft))] ∧ va_S A s.heap H locs ∧ lv_has ls 7 [(6, .int x2442), (5, .int y2433), (4, .int y2434), (3, .int y966), (2, .int y967), (1, .int y968), (0, .ref h)]) (fun u H locs ls hI => ?_) (fun hJ202 => ?_)
            · skip
              clear hP hD hS hl
              obtain ⟨g2503, rfl⟩ : ∃ z, z = u := ⟨_, rfl⟩
              obtain ⟨hg2503_0, hg2503_1, hg2503_2, hP, hD, hS, hl⟩ := hI
              have hP : va_P D vwCl [(ac, .inl (cI, 6060, .inl g1763)), (h, oX11 x1758 aw ai ab ac hi x1762 aP 0 0 ta be de fa a5 sp av an ak ne aW aC ag aT aN aF), (aw, .inl (cI, 2179, .inl g2503)), (aP, .inl (cB, 400, .inl ft))] H := hP
              have hD : va_D A [(ac, .inl (cI, 6060, .inl g1763)), (h, oX11 x1758 aw ai ab ac hi x1762 aP 0 0 ta be de fa a5 sp av an ak ne aW aC ag aT aN aF), (aw, .inl (cI, 2179, .inl g2503)), (aP, .inl (cB, 400, .inl ft))] := hD
              have hl : lv_has ls 7 [(6, .int x2442), (5, .int y2433), (4, .int y2434), (3, .int y966), (2, .int y967), (1, .int y968), (0, .ref h)] := hl
              obtain ⟨x2504, ex2504⟩ : ∃ y : Int32, y = y2434 + 1 := ⟨_, rfl⟩
              refine lv_iinc (v := x2504) (lv' := [(4, .int x2504), (6, .int x2442), (5, .int y2433), (3, .int y966), (2, .int y967), (1, .int y968), (0, .ref h)]) hx hb dX11_hang_202 hl (k := 2) rfl (by rw [ex2504]; rfl) (by decide) rfl (fun ls hl => ?_)
              exact hJ205 (x2504, g2503) _ _ _ ⟨hg2503_0, hg2503_1, hg2503_2, hP.sub (ws' := [(aP, .inl (cB, 400, .inl ft)), (h, oX11 x1758 aw ai ab ac hi x1762 aP 0 0 ta be de fa a5 sp av an ak ne aW aC ag aT aN aF), (aw, .inl (cI, 2179, .inl g2503)), (ac, .inl (cI, 6060, .inl g1763))]) [3, 1, 2, 0] rfl, hD.sub (ws' := [(aP, .inl (cB, 400, .inl ft)), (h, oX11 x1758 aw ai ab ac hi x1762 aP 0 0 ta be de fa a5 sp av an ak ne aW aC ag aT aN aF), (aw, .inl (cI, 2179, .inl g2503)), (ac, .inl (cI, 6060, .inl g1763))]) [3, 1, 2, 0] (by decide) rfl, hS, lv_sub (l' := [(6, .int x2442), (5, .int y2433), (4, .int x2504), (3, .int y966), (2, .int y967), (1, .int y968), (0, .ref h)]) hl [1, 2, 0, 3, 4, 5, 6] rfl⟩
            refine lv_if_ne (tgt := 202) hx hb dX11_hang_186 (by decide) (fun c2505 => ?_) (fun c2505 => ?_)
            · skip
              have k2506 : Rg r2482 1 1 := rg_n1 (neI c2505) k2487 (rg_lit (n := 0) (by decide)) (by decide)
              exact hJ202 (g2483) _ _ _ ⟨k2484, k2485, k2486, hP.sub (ws' := [(ac, .inl (cI, 6060, .inl g1763)), (h, oX11 x1758 aw ai ab ac hi x1762 aP 0 0 ta be de fa a5 sp av an ak ne aW aC ag aT aN aF), (aw, .inl (cI, 2179, .inl g2483)), (aP, .inl (cB, 400, .inl ft))]) [0, 1, 2, 3] rfl, hD.sub (ws' := [(ac, .inl (cI, 6060, .inl g1763)), (h, oX11 x1758 aw ai ab ac hi x1762 aP 0 0 ta be de fa a5 sp av an ak ne aW aC ag aT aN aF), (aw, .inl (cI, 2179, .inl g2483)), (aP, .inl (cB, 400, .inl ft))]) [0, 1, 2, 3] (by decide) rfl, hS, lv_sub (l' := [(6, .int x2442), (5, .int y2433), (4, .int y2434), (3, .int y966), (2, .int y967), (1, .int y968), (0, .ref h)]) hl [0, 1, 2, 3, 4, 5, 6] rfl⟩
            · skip
              have k2507 : Rg r2482 0 0 := rg_q1 (eqI c2505) k2487 (rg_lit (n := 0) (by decide)) (by decide)
              refine lv_aload_n hx hb dX11_hang_189 rfl (lv_at hl 6 rfl) ?_
              refine lv_iload hx hb dX11_hang_190 (lv_at hl 0 rfl) ?_
              refine lv_iload hx hb dX11_hang_192 (lv_at hl 1 rfl) ?_
              refine lv_iconst (v := 1) hx hb dX11_hang_194 (by decide) ?_
              refine lv_iadd hx hb dX11_hang_195 ?_
              refine lv_topi (fun x2508 ex2508 => ?_)
              have tx2508 : x2508.toInt = y2433.toInt + 1 := ti_add ex2508 k2438 (rg_lit (n := 1) (by decide)) (by decide) rfl (by decide)
              have k2509 : Rg x2508 1 400 := rg_add ex2508 k2438 (rg_lit (n := 1) (by decide)) (by decide)
              refine kcalli (wc := [(h, oX11 x1758 aw ai ab ac hi x1762 aP 0 0 ta be de fa a5 sp av an ak ne aW aC ag aT aN aF), (aw, .inl (cI, 2179, .inl g2483)), (aP, .inl (cB, 400, .inl ft))]) (wr := [(ac, .inl (cI, 6060, .inl g1763))]) hP hD hS hA [1, 2, 3] [0] rfl rfl (by decide) (by decide) (by decide) (fun hPc hDc hFc => va_runV (As := [.int x2442, .int x2508]) (rest := []) ⟨hx, hb, hml, hown, hts⟩ (r_runsFrom l D cI cJ cB cC h x1758 aw ai ab ac hi x1762 aP 0 0 ta be de fa a5 sp av an ak ne aW aC ag aT aN aF g2483 ft x2442 x2508 H.size k2443 (rg_w k2439 (by decide)) k2486 k2484 k2485 hHT) (cwV 2 hts gX11_hang_X11_runsFrom rfl rfl rfl ⟨rfl, hdX11_runsFrom⟩ ⟨Nat.le_of_ble_eq_true rfl, Nat.le_of_ble_eq_true rfl⟩) ⟨kBlind, va_recv hK hPc (ci := 10) (q0 := 0) rfl rfl, fun U hU hW => ⟨rfl, by rw [hU], hN.warm hW, hE.pass hS hFc hW hU, by rw [hU]; exact hPc, va_K.moved hW.alike hK, hDc⟩⟩ rfl rfl hl.1 rfl (lv_room (Nat.le_of_ble_eq_true rfl)) dX11_hang_196 ⟨Nat.le_of_ble_eq_true rfl, Nat.le_of_ble_eq_true rfl⟩) (fun r2510 u H locs hw hP hD hS => ?_)
              obtain ⟨g2511, rfl⟩ : ∃ z, z = u := ⟨_, rfl⟩
              have hP : va_P D vwCl [(ac, .inl (cI, 6060, .inl g1763)), (h, oX11 x1758 aw ai ab ac hi x1762 aP 0 0 ta be de fa a5 sp av an ak ne aW aC ag aT aN aF), (aw, .inl (cI, 2179, .inl g2511)), (aP, .inl (cB, 400, .inl ft))] H := hP
              have hD : va_D A [(ac, .inl (cI, 6060, .inl g1763)), (h, oX11 x1758 aw ai ab ac hi x1762 aP 0 0 ta be de fa a5 sp av an ak ne aW aC ag aT aN aF), (aw, .inl (cI, 2179, .inl g2511)), (aP, .inl (cB, 400, .inl ft))] := hD
              obtain ⟨k2512, k2513, k2514, k2515⟩ := hw
              refine lv_if_eq (tgt := 205) hx hb dX11_hang_199 (by decide) (fun c2516 => ?_) (fun c2516 => ?_)
              · skip
                have k2517 : Rg r2510 0 0 := rg_q1 (eqI c2516) k2515 (rg_lit (n := 0) (by decide)) (by decide)
                exact hJ205 (y2434, g2511) _ _ _ ⟨k2512, k2513, k2514, hP.sub (ws' := [(aP, .inl (cB, 400, .inl ft)), (h, oX11 x1758 aw ai ab ac hi x1762 aP 0 0 ta be de fa a5 sp av an ak ne aW aC ag aT aN aF), (aw, .inl (cI, 2179, .inl g2511)), (ac, .inl (cI, 6060, .inl g1763))]) [3, 1, 2, 0] rfl, hD.sub (ws' := [(aP, .inl (cB, 400, .inl ft)), (h, oX11 x1758 aw ai ab ac hi x1762 aP 0 0 ta be de fa a5 sp av an ak ne aW aC ag aT aN aF), (aw, .inl (cI, 2179, .inl g2511)), (ac, .inl (cI, 6060, .inl g1763))]) [3, 1, 2, 0] (by decide) rfl, hS, lv_sub (l' := [(6, .int x2442), (5, .int y2433), (4, .int y2434), (3, .int y966), (2, .int y967), (1, .int y968), (0, .ref h)]) hl [0, 1, 2, 3, 4, 5, 6] rfl⟩
              · skip
                have k2518 : Rg r2510 1 1 := rg_n1 (neI c2516) k2515 (rg_lit (n := 0) (by decide)) (by decide)
                exact hJ202 (g2511) _ _ _ ⟨k2512, k2513, k2514, hP.sub (ws' := [(ac, .inl (cI, 6060, .inl g1763)), (h, oX11 x1758 aw ai ab ac hi x1762 aP 0 0 ta be de fa a5 sp av an ak ne aW aC ag aT aN aF), (aw, .inl (cI, 2179, .inl g2511)), (aP, .inl (cB, 400, .inl ft))]) [0, 1, 2, 3] rfl, hD.sub (ws' := [(ac, .inl (cI, 6060, .inl g1763)), (h, oX11 x1758 aw ai ab ac hi x1762 aP 0 0 ta be de fa a5 sp av an ak ne aW aC ag aT aN aF), (aw, .inl (cI, 2179, .inl g2511)), (aP, .inl (cB, 400, .inl ft))]) [0, 1, 2, 3] (by decide) rfl, hS, lv_sub (l' := [(6, .int x2442), (5, .int y2433), (4, .int y2434), (3, .int y966), (2, .int y967), (1, .int y968), (0, .ref h)]) hl [0, 1, 2, 3, 4, 5, 6] rfl⟩
      · skip
        have k2519 : Rg r1757 1 1 := rg_n1 (neI c1760) k1759 (rg_lit (n := 0) (by decide)) (by decide)
        refine lv_iconst (v := 0) hx hb dX11_hang_133 (by decide) ?_
        have hP9 := hP.sub (ws' := [(h, oX11 x1758 aw ai ab ac hi re aP 0 0 ta be de fa a5 sp av an ak ne aW aC ag aT aN aF), (aw, .inl (cI, 2179, .inl fw)), (aP, .inl (cB, 400, .inl ft)), (ac, .inl (cI, 6060, .inl fc))]) [3, 0, 1, 2] rfl
        have hD9 := hD.sub (ws' := [(h, oX11 x1758 aw ai ab ac hi re aP 0 0 ta be de fa a5 sp av an ak ne aW aC ag aT aN aF), (aw, .inl (cI, 2179, .inl fw)), (aP, .inl (cB, 400, .inl ft)), (ac, .inl (cI, 6060, .inl fc))]) [3, 0, 1, 2] (by decide) rfl
        exact W.iret (v := 0) hx hb hr (fun t ht hW => ⟨⟨0, (x1758, re, ta, fw, fc), rfl, ⟨H_re, H_ta, H_fw_B, H_fw_L, H_fw_W, H_fc_C⟩, by rw [ht]; exact hP9, va_K.moved hW.alike hK, hD9⟩, hS.F ht⟩) hS.2.2 dX11_hang_134
    · skip
      have k2520 : Rg y967 0 0 := rg_q1 (eqI c1032) hy967 (rg_lit (n := 0) (by decide)) (by decide)
      refine lv_iconst (v := 1) hx hb dX11_hang_112 (by decide) ?_
      refine lv_goto (tgt := 117) hx hb dX11_hang_113 (by decide) ?_
      refine lv_iconst (v := 1) hx hb dX11_hang_117 (by decide) ?_
      refine kcalli (wc := [(h, oX11 0 aw ai ab ac hi re aP 0 0 ta be de fa a5 sp av an ak ne aW aC ag aT aN aF)]) (wr := [(aw, .inl (cI, 2179, .inl fw)), (aP, .inl (cB, 400, .inl ft)), (ac, .inl (cI, 6060, .inl fc))]) hP hD hS hA [3] [0, 1, 2] rfl rfl (by decide) (by decide) (by decide) (fun hPc hDc hFc => va_runV (As := [.int 1, .int 1]) (rest := []) ⟨hx, hb, hml, hown, hts⟩ (r_throwsIf1_1 l D cI cJ cB cC h 0 aw ai ab ac hi re aP 0 0 ta be de fa a5 sp av an ak ne aW aC ag aT aN aF 1 H.size) (cwV 2 hts gX11_hang_X11_throwsIf rfl rfl rfl ⟨rfl, hdX11_throwsIf⟩ ⟨Nat.le_of_ble_eq_true rfl, Nat.le_of_ble_eq_true rfl⟩) ⟨kBlind, va_recv hK hPc (ci := 10) (q0 := 0) rfl rfl, fun U hU hW => ⟨rfl, by rw [hU], hN.warm hW, hE.pass hS hFc hW hU, by rw [hU]; exact hPc, va_K.moved hW.alike hK, hDc⟩⟩ rfl rfl hl.1 rfl (lv_room (Nat.le_of_ble_eq_true rfl)) dX11_hang_118 ⟨Nat.le_of_ble_eq_true rfl, Nat.le_of_ble_eq_true rfl⟩) (fun r2521 u H locs hw hP hD hS => ?_)
      obtain ⟨x2522, rfl⟩ : ∃ z, z = u := ⟨_, rfl⟩
      have hP : va_P D vwCl [(aw, .inl (cI, 2179, .inl fw)), (aP, .inl (cB, 400, .inl ft)), (ac, .inl (cI, 6060, .inl fc)), (h, oX11 x2522 aw ai ab ac hi re aP 0 0 ta be de fa a5 sp av an ak ne aW aC ag aT aN aF)] H := hP
      have hD : va_D A [(aw, .inl (cI, 2179, .inl fw)), (aP, .inl (cB, 400, .inl ft)), (ac, .inl (cI, 6060, .inl fc)), (h, oX11 x2522 aw ai ab ac hi re aP 0 0 ta be de fa a5 sp av an ak ne aW aC ag aT aN aF)] := hD
      have k2523 := hw
      refine lv_if_ne (tgt := 133) hx hb dX11_hang_121 (by decide) (fun _ => ?_) (fun c2525 => absurd c2525 (rg_neq k2523 (rg_lit (n := 0) (by decide)) (by decide)))
      refine lv_iconst (v := 0) hx hb dX11_hang_133 (by decide) ?_
      have hP9 := hP.sub (ws' := [(h, oX11 x2522 aw ai ab ac hi re aP 0 0 ta be de fa a5 sp av an ak ne aW aC ag aT aN aF), (aw, .inl (cI, 2179, .inl fw)), (aP, .inl (cB, 400, .inl ft)), (ac, .inl (cI, 6060, .inl fc))]) [3, 0, 1, 2] rfl
      have hD9 := hD.sub (ws' := [(h, oX11 x2522 aw ai ab ac hi re aP 0 0 ta be de fa a5 sp av an ak ne aW aC ag aT aN aF), (aw, .inl (cI, 2179, .inl fw)), (aP, .inl (cB, 400, .inl ft)), (ac, .inl (cI, 6060, .inl fc))]) [3, 0, 1, 2] (by decide) rfl
      exact W.iret (v := 0) hx hb hr (fun t ht hW => ⟨⟨0, (x2522, re, ta, fw, fc), rfl, ⟨H_re, H_ta, H_fw_B, H_fw_L, H_fw_W, H_fc_C⟩, by rw [ht]; exact hP9, va_K.moved hW.alike hK, hD9⟩, hS.F ht⟩) hS.2.2 dX11_hang_134
  · skip
    have k2526 : Rg y965 0 399 := rg_l1 (nleI c1028) hy965 H_ta (by decide)
    have k2527 : Rg ta 1 400 := rg_l2 (nleI c1028) hy965 H_ta (by decide)
    refine lv_iload_n hx hb dX11_hang_22 rfl (lv_at hl 2 rfl) ?_
    refine lv_if_eq (tgt := 107) hx hb dX11_hang_23 (by decide) (fun c2528 => ?_) (fun c2528 => ?_)
    · skip
      have k2529 : Rg y967 0 0 := rg_q1 (eqI c2528) hy967 (rg_lit (n := 0) (by decide)) (by decide)
      refine lv_aload_n hx hb dX11_hang_107 rfl (lv_at hl 4 rfl) ?_
      refine lv_iload_n hx hb dX11_hang_108 rfl (lv_at hl 2 rfl) ?_
      refine lv_if_ne (tgt := 116) hx hb dX11_hang_109 (by decide) (fun c2531 => absurd (rg_eq k2529 (rg_lit (n := 0) (by decide)) (by decide)) c2531) (fun _ => ?_)
      refine lv_iconst (v := 1) hx hb dX11_hang_112 (by decide) ?_
      refine lv_goto (tgt := 117) hx hb dX11_hang_113 (by decide) ?_
      refine lv_iconst (v := 1) hx hb dX11_hang_117 (by decide) ?_
      refine kcalli (wc := [(h, oX11 0 aw ai ab ac hi re aP 0 0 ta be de fa a5 sp av an ak ne aW aC ag aT aN aF)]) (wr := [(aw, .inl (cI, 2179, .inl fw)), (aP, .inl (cB, 400, .inl ft)), (ac, .inl (cI, 6060, .inl fc))]) hP hD hS hA [3] [0, 1, 2] rfl rfl (by decide) (by decide) (by decide) (fun hPc hDc hFc => va_runV (As := [.int 1, .int 1]) (rest := []) ⟨hx, hb, hml, hown, hts⟩ (r_throwsIf1_1 l D cI cJ cB cC h 0 aw ai ab ac hi re aP 0 0 ta be de fa a5 sp av an ak ne aW aC ag aT aN aF 1 H.size) (cwV 2 hts gX11_hang_X11_throwsIf rfl rfl rfl ⟨rfl, hdX11_throwsIf⟩ ⟨Nat.le_of_ble_eq_true rfl, Nat.le_of_ble_eq_true rfl⟩) ⟨kBlind, va_recv hK hPc (ci := 10) (q0 := 0) rfl rfl, fun U hU hW => ⟨rfl, by rw [hU], hN.warm hW, hE.pass hS hFc hW hU, by rw [hU]; exact hPc, va_K.moved hW.alike hK, hDc⟩⟩ rfl rfl hl.1 rfl (lv_room (Nat.le_of_ble_eq_true rfl)) dX11_hang_118 ⟨Nat.le_of_ble_eq_true rfl, Nat.le_of_ble_eq_true rfl⟩) (fun r2532 u H locs hw hP hD hS => ?_)
      obtain ⟨x2533, rfl⟩ : ∃ z, z = u := ⟨_, rfl⟩
      have hP : va_P D vwCl [(aw, .inl (cI, 2179, .inl fw)), (aP, .inl (cB, 400, .inl ft)), (ac, .inl (cI, 6060, .inl fc)), (h, oX11 x2533 aw ai ab ac hi re aP 0 0 ta be de fa a5 sp av an ak ne aW aC ag aT aN aF)] H := hP
      have hD : va_D A [(aw, .inl (cI, 2179, .inl fw)), (aP, .inl (cB, 400, .inl ft)), (ac, .inl (cI, 6060, .inl fc)), (h, oX11 x2533 aw ai ab ac hi re aP 0 0 ta be de fa a5 sp av an ak ne aW aC ag aT aN aF)] := hD
      have k2534 := hw
      refine lv_if_ne (tgt := 133) hx hb dX11_hang_121 (by decide) (fun _ => ?_) (fun c2536 => absurd c2536 (rg_neq k2534 (rg_lit (n := 0) (by decide)) (by decide)))
      refine lv_iconst (v := 0) hx hb dX11_hang_133 (by decide) ?_
      have hP9 := hP.sub (ws' := [(h, oX11 x2533 aw ai ab ac hi re aP 0 0 ta be de fa a5 sp av an ak ne aW aC ag aT aN aF), (aw, .inl (cI, 2179, .inl fw)), (aP, .inl (cB, 400, .inl ft)), (ac, .inl (cI, 6060, .inl fc))]) [3, 0, 1, 2] rfl
      have hD9 := hD.sub (ws' := [(h, oX11 x2533 aw ai ab ac hi re aP 0 0 ta be de fa a5 sp av an ak ne aW aC ag aT aN aF), (aw, .inl (cI, 2179, .inl fw)), (aP, .inl (cB, 400, .inl ft)), (ac, .inl (cI, 6060, .inl fc))]) [3, 0, 1, 2] (by decide) rfl
      exact W.iret (v := 0) hx hb hr (fun t ht hW => ⟨⟨0, (x2533, re, ta, fw, fc), rfl, ⟨H_re, (rg_w k2527 (by decide)), H_fw_B, H_fw_L, H_fw_W, H_fc_C⟩, by rw [ht]; exact hP9, va_K.moved hW.alike hK, hD9⟩, hS.F ht⟩) hS.2.2 dX11_hang_134
    · skip
      have k2537 : Rg y967 1 1 := rg_n1 (neI c2528) hy967 (rg_lit (n := 0) (by decide)) (by decide)
      refine lv_aload_n hx hb dX11_hang_26 rfl (lv_at hl 4 rfl) ?_
      refine va_get (D := D) (ci := 10) (v := .ref aP) (C := RX11) (T := TX11) (N := 26) hx hb hts iG_X11 hown hK hP 3 rfl rfl 7 (by decide) (hts _ w5_8) (fun _ h9 => h9) rfl dX11_hang_27 ?_
      refine lv_iload hx hb dX11_hang_30 (lv_at hl 0 rfl) ?_
      refine va_bald hx hb hK hP 1 2 rfl rfl (rg_in k2526 (by decide)) dX11_hang_32 ?_
      refine lv_topi (fun x2538 ex2538 => ?_)
      refine lv_bipush (v := 97) hx hb dX11_hang_33 (by decide) ?_
      refine lv_isub hx hb dX11_hang_35 ?_
      refine lv_topi (fun x2539 ex2539 => ?_)
      refine lv_istore (lv' := [(5, .int x2539), (4, .int y965), (3, .int y966), (2, .int y967), (1, .int y968), (0, .ref h)]) hx hb dX11_hang_36 hl (by decide) rfl (fun ls hl => ?_)
      refine lv_aload_n hx hb dX11_hang_38 rfl (lv_at hl 5 rfl) ?_
      refine lv_iload hx hb dX11_hang_39 (lv_at hl 0 rfl) ?_
      refine kpurei (wc := [(h, oX11 0 aw ai ab ac hi re aP 0 0 ta be de fa a5 sp av an ak ne aW aC ag aT aN aF), (aw, .inl (cI, 2179, .inl fw))]) hP hD hS hA [3, 0] rfl (by decide) (fun hPc hDc hFc => va_runV (As := [.int x2539]) (rest := []) ⟨hx, hb, hml, hown, hts⟩ (r_noShirt l D cI cJ cB cC h 0 aw ai ab ac hi re aP 0 0 ta be de fa a5 sp av an ak ne aW aC ag aT aN aF fw x2539 H.size H_fw_W) (cwV 1 hts gX11_hang_X11_noShirt rfl rfl rfl ⟨rfl, hdX11_noShirt⟩ ⟨Nat.le_of_ble_eq_true rfl, Nat.le_of_ble_eq_true rfl⟩) ⟨kBlind, va_recv hK hPc (ci := 10) (q0 := 0) rfl rfl, fun U hU hW => ⟨rfl, by rw [hU], hN.warm hW, hE.pass hS hFc hW hU, by rw [hU]; exact hPc, va_K.moved hW.alike hK, hDc⟩⟩ rfl rfl hl.1 rfl (lv_room (Nat.le_of_ble_eq_true rfl)) dX11_hang_41 ⟨Nat.le_of_ble_eq_true rfl, Nat.le_of_ble_eq_true rfl⟩) (fun r2540 u H locs hw hP hS => ?_)
      rcases hw with ⟨rfl, kc2541_0, kc2541_1⟩ | rfl
      · skip
        refine lv_if_ne (tgt := 60) hx hb dX11_hang_44 (by decide) (fun c2548 => absurd (by decide) c2548) (fun _ => ?_)
        refine lv_iload_n hx hb dX11_hang_47 rfl (lv_at hl 4 rfl) ?_
        refine lv_iload hx hb dX11_hang_48 (lv_at hl 0 rfl) ?_
        refine kpurei (wc := []) hP hD hS hA [] rfl (by decide) (fun hPc hDc hFc => va_runS (As := [.int y968, .int x2539]) (rest := []) ⟨hx, hb, hml, hown, hts⟩ (r_has l D cI cJ cB cC y968 x2539 H.size) (va_cwS 2 hts gX11_hang_X11_has rfl rfl rfl hdX11_has ⟨Nat.le_of_ble_eq_true rfl, Nat.le_of_ble_eq_true rfl⟩) ⟨kBlind, fun U hU hW => ⟨rfl, by rw [hU], hN.warm hW, hE.pass hS hFc hW hU, by rw [hU]; exact hPc, va_K.moved hW.alike hK, hDc⟩⟩ rfl rfl hl.1 rfl (lv_room (Nat.le_of_ble_eq_true rfl)) dX11_hang_50 ⟨Nat.le_of_ble_eq_true rfl, Nat.le_of_ble_eq_true rfl⟩) (fun r2549 u H locs hw hP hS => ?_)
        have k2550 := hw
        refine lv_if_ne (tgt := 60) hx hb dX11_hang_53 (by decide) (fun c2551 => ?_) (fun c2551 => ?_)
        · skip
          have k2552 : Rg r2549 1 1 := rg_n1 (neI c2551) k2550 (rg_lit (n := 0) (by decide)) (by decide)
          refine lv_iconst (v := 0) hx hb dX11_hang_60 (by decide) ?_
          refine lv_istore_n (lv' := [(2, .int 0), (5, .int x2539), (4, .int y965), (3, .int y966), (1, .int y968), (0, .ref h)]) hx hb dX11_hang_61 rfl hl (by decide) rfl (fun ls hl => ?_)
          refine lv_iload_n hx hb dX11_hang_62 rfl (lv_at hl 4 rfl) ?_
          refine lv_iload_n hx hb dX11_hang_63 rfl (lv_at hl 0 rfl) ?_
          refine lv_if_eq (tgt := 74) hx hb dX11_hang_64 (by decide) (fun _ => ?_) (fun c2554 => absurd (by decide) c2554)
          refine lv_iconst (v := 0) hx hb dX11_hang_74 (by decide) ?_
          refine lv_ior hx hb dX11_hang_75 ?_
          refine lv_topi (fun x2555 ex2555 => ?_)
          have k2556 : Rg x2555 0 4095 := rg_or 12 ex2555 hy968 (rg_lit (n := 0) (by decide)) (by decide)
          refine lv_istore_n (lv' := [(1, .int x2555), (2, .int 0), (5, .int x2539), (4, .int y965), (3, .int y966), (0, .ref h)]) hx hb dX11_hang_76 rfl hl (by decide) rfl (fun ls hl => ?_)
          refine lv_iload_n hx hb dX11_hang_77 rfl (lv_at hl 4 rfl) ?_
          refine lv_if_ne (tgt := 95) hx hb dX11_hang_78 (by decide) (fun c2561 => ?_) (fun c2561 => ?_)
          · skip
            have k2562 : Rg y966 1 1 := rg_n1 (neI c2561) hy966 (rg_lit (n := 0) (by decide)) (by decide)
            refine lv_iconst (v := 1) hx hb dX11_hang_95 (by decide) ?_
            refine lv_goto (tgt := 100) hx hb dX11_hang_96 (by decide) ?_
            refine lv_istore_n (lv' := [(3, .int 1), (1, .int x2555), (2, .int 0), (5, .int x2539), (4, .int y965), (0, .ref h)]) hx hb dX11_hang_100 rfl hl (by decide) rfl (fun ls hl => ?_)
            obtain ⟨x2563, ex2563⟩ : ∃ y : Int32, y = y965 + 1 := ⟨_, rfl⟩
            refine lv_iinc (v := x2563) (lv' := [(4, .int x2563), (3, .int 1), (1, .int x2555), (2, .int 0), (5, .int x2539), (0, .ref h)]) hx hb dX11_hang_101 hl (k := 4) rfl (by rw [ex2563]; rfl) (by decide) rfl (fun ls hl => ?_)
            have k2564 : Rg x2563 1 400 := rg_add ex2563 k2526 (rg_lit (n := 1) (by decide)) (by decide)
            refine lv_goto (tgt := 13) hx hb dX11_hang_104 (by decide) ?_
            exact ih969 (x2563, (1 : Int32), (0 : Int32), x2555) _ _ _ (by show (400 - (x2563).toInt).toNat < (400 - (y965).toInt).toNat; exact mu_up ex2563 k2526 k2564 (by decide)) ⟨(Or.inl (by decide)), (rg_w k2564 (by decide)), (rg_w (rg_lit (n := 1) (by decide)) (by decide)), (rg_w (rg_lit (n := 0) (by decide)) (by decide)), k2556, hP.sub (ws' := [(aw, .inl (cI, 2179, .inl fw)), (aP, .inl (cB, 400, .inl ft)), (ac, .inl (cI, 6060, .inl fc)), (h, oX11 0 aw ai ab ac hi re aP 0 0 ta be de fa a5 sp av an ak ne aW aC ag aT aN aF)]) [0, 1, 2, 3] rfl, hD.sub (ws' := [(aw, .inl (cI, 2179, .inl fw)), (aP, .inl (cB, 400, .inl ft)), (ac, .inl (cI, 6060, .inl fc)), (h, oX11 0 aw ai ab ac hi re aP 0 0 ta be de fa a5 sp av an ak ne aW aC ag aT aN aF)]) [0, 1, 2, 3] (by decide) rfl, hS, lv_sub (l' := [(4, .int x2563), (3, .int 1), (2, .int 0), (1, .int x2555), (0, .ref h)]) hl [0, 1, 3, 2, 5] rfl⟩
          · skip
            have k2565 : Rg y966 0 0 := rg_q1 (eqI c2561) hy966 (rg_lit (n := 0) (by decide)) (by decide)
            refine lv_iload_n hx hb dX11_hang_81 rfl (lv_at hl 1 rfl) ?_
            refine lv_if_eq (tgt := 99) hx hb dX11_hang_82 (by decide) (fun _ => ?_) (fun c2567 => absurd (by decide) c2567)
            refine lv_iconst (v := 0) hx hb dX11_hang_99 (by decide) ?_
            refine lv_istore_n (lv' := [(3, .int 0), (1, .int x2555), (2, .int 0), (5, .int x2539), (4, .int y965), (0, .ref h)]) hx hb dX11_hang_100 rfl hl (by decide) rfl (fun ls hl => ?_)
            obtain ⟨x2568, ex2568⟩ : ∃ y : Int32, y = y965 + 1 := ⟨_, rfl⟩
            refine lv_iinc (v := x2568) (lv' := [(4, .int x2568), (3, .int 0), (1, .int x2555), (2, .int 0), (5, .int x2539), (0, .ref h)]) hx hb dX11_hang_101 hl (k := 4) rfl (by rw [ex2568]; rfl) (by decide) rfl (fun ls hl => ?_)
            have k2569 : Rg x2568 1 400 := rg_add ex2568 k2526 (rg_lit (n := 1) (by decide)) (by decide)
            refine lv_goto (tgt := 13) hx hb dX11_hang_104 (by decide) ?_
            exact ih969 (x2568, (0 : Int32), (0 : Int32), x2555) _ _ _ (by show (400 - (x2568).toInt).toNat < (400 - (y965).toInt).toNat; exact mu_up ex2568 k2526 k2569 (by decide)) ⟨(Or.inl (by decide)), (rg_w k2569 (by decide)), (rg_w (rg_lit (n := 0) (by decide)) (by decide)), (rg_w (rg_lit (n := 0) (by decide)) (by decide)), k2556, hP.sub (ws' := [(aw, .inl (cI, 2179, .inl fw)), (aP, .inl (cB, 400, .inl ft)), (ac, .inl (cI, 6060, .inl fc)), (h, oX11 0 aw ai ab ac hi re aP 0 0 ta be de fa a5 sp av an ak ne aW aC ag aT aN aF)]) [0, 1, 2, 3] rfl, hD.sub (ws' := [(aw, .inl (cI, 2179, .inl fw)), (aP, .inl (cB, 400, .inl ft)), (ac, .inl (cI, 6060, .inl fc)), (h, oX11 0 aw ai ab ac hi re aP 0 0 ta be de fa a5 sp av an ak ne aW aC ag aT aN aF)]) [0, 1, 2, 3] (by decide) rfl, hS, lv_sub (l' := [(4, .int x2568), (3, .int 0), (2, .int 0), (1, .int x2555), (0, .ref h)]) hl [0, 1, 3, 2, 5] rfl⟩
        · skip
          have k2570 : Rg r2549 0 0 := rg_q1 (eqI c2551) k2550 (rg_lit (n := 0) (by decide)) (by decide)
          refine lv_iconst (v := 1) hx hb dX11_hang_56 (by decide) ?_
          refine lv_goto (tgt := 61) hx hb dX11_hang_57 (by decide) ?_
          refine lv_istore_n (lv' := [(2, .int 1), (5, .int x2539), (4, .int y965), (3, .int y966), (1, .int y968), (0, .ref h)]) hx hb dX11_hang_61 rfl hl (by decide) rfl (fun ls hl => ?_)
          refine lv_iload_n hx hb dX11_hang_62 rfl (lv_at hl 4 rfl) ?_
          refine lv_iload_n hx hb dX11_hang_63 rfl (lv_at hl 0 rfl) ?_
          refine lv_if_eq (tgt := 74) hx hb dX11_hang_64 (by decide) (fun c2574 => absurd c2574 (by decide)) (fun _ => ?_)
          refine lv_iconst (v := 1) hx hb dX11_hang_67 (by decide) ?_
          refine lv_iload hx hb dX11_hang_68 (lv_at hl 1 rfl) ?_
          refine lv_ishl hx hb dX11_hang_70 ?_
          refine lv_topi (fun x2575 ex2575 => ?_)
          have k2576 : Rg x2575 1 2048 := rg_shl1 11 ex2575 kc2541_0 (by decide)
          refine lv_goto (tgt := 75) hx hb dX11_hang_71 (by decide) ?_
          refine lv_ior hx hb dX11_hang_75 ?_
          refine lv_topi (fun x2577 ex2577 => ?_)
          have k2578 : Rg x2577 0 4095 := rg_or 12 ex2577 hy968 k2576 (by decide)
          refine lv_istore_n (lv' := [(1, .int x2577), (2, .int 1), (5, .int x2539), (4, .int y965), (3, .int y966), (0, .ref h)]) hx hb dX11_hang_76 rfl hl (by decide) rfl (fun ls hl => ?_)
          refine lv_iload_n hx hb dX11_hang_77 rfl (lv_at hl 4 rfl) ?_
          refine k_join (hd := 95) (cells2 := 0) (slots2 := 0) (fun (_ : Unit) => []) (fun (_ : Unit) (H : Heap) (locs : List Loc) (ls : Array Slot) => va_P D vwCl [(aw, .inl (cI, 2179, .inl fw)), (aP, .inl (cB, 400, .inl ft)), (ac, .inl (cI, 6060, .inl fc)), (h, oX11 0 aw ai ab ac hi re aP 0 0 ta be de fa a5 sp av an ak ne aW aC ag aT aN aF)] H ∧ va_D A [(aw, .inl (cI, 2179, .inl fw)), (aP, .inl (cB, 400, .inl ft)), (ac, .inl (cI, 6060, .inl fc)), (h, oX11 0 aw ai ab ac hi re aP 0 0 ta be de fa a5 sp av an ak ne aW aC ag aT aN aF)] ∧ va_S A s.heap H locs ∧ lv_has ls 7 [(1, .int x2577), (2, .int 1), (5, .int x2539), (4, .int y965), (3, .int y966), (0, .ref h)]) (fun u H locs ls hI => ?_) (fun hJ95 => ?_)
          · skip
            clear hP hD hS hl
            obtain ⟨hP, hD, hS, hl⟩ := hI
            have hP : va_P D vwCl [(aw, .inl (cI, 2179, .inl fw)), (aP, .inl (cB, 400, .inl ft)), (ac, .inl (cI, 6060, .inl fc)), (h, oX11 0 aw ai ab ac hi re aP 0 0 ta be de fa a5 sp av an ak ne aW aC ag aT aN aF)] H := hP
            have hD : va_D A [(aw, .inl (cI, 2179, .inl fw)), (aP, .inl (cB, 400, .inl ft)), (ac, .inl (cI, 6060, .inl fc)), (h, oX11 0 aw ai ab ac hi re aP 0 0 ta be de fa a5 sp av an ak ne aW aC ag aT aN aF)] := hD
            have hl : lv_has ls 7 [(1, .int x2577), (2, .int 1), (5, .int x2539), (4, .int y965), (3, .int y966), (0, .ref h)] := hl
            refine lv_iconst (v := 1) hx hb dX11_hang_95 (by decide) ?_
            refine lv_goto (tgt := 100) hx hb dX11_hang_96 (by decide) ?_
            refine lv_istore_n (lv' := [(3, .int 1), (1, .int x2577), (2, .int 1), (5, .int x2539), (4, .int y965), (0, .ref h)]) hx hb dX11_hang_100 rfl hl (by decide) rfl (fun ls hl => ?_)
            obtain ⟨x2589, ex2589⟩ : ∃ y : Int32, y = y965 + 1 := ⟨_, rfl⟩
            refine lv_iinc (v := x2589) (lv' := [(4, .int x2589), (3, .int 1), (1, .int x2577), (2, .int 1), (5, .int x2539), (0, .ref h)]) hx hb dX11_hang_101 hl (k := 4) rfl (by rw [ex2589]; rfl) (by decide) rfl (fun ls hl => ?_)
            have k2590 : Rg x2589 1 400 := rg_add ex2589 k2526 (rg_lit (n := 1) (by decide)) (by decide)
            refine lv_goto (tgt := 13) hx hb dX11_hang_104 (by decide) ?_
            exact ih969 (x2589, (1 : Int32), (1 : Int32), x2577) _ _ _ (by show (400 - (x2589).toInt).toNat < (400 - (y965).toInt).toNat; exact mu_up ex2589 k2526 k2590 (by decide)) ⟨(Or.inr (hg_step ((hX13_0).resolve_left (by have q1 := neI c2528; have q2 : (0 : Int32).toInt = 0 := (by decide); omega)) (ti_add (Y := 1) ex2589 k2526 (rg_lit (n := 1) (by decide)) (by decide) rfl (by decide)) (by have q1 := k2526; unfold Rg at q1; omega) ex2538 (cl_of (k := cN y965) k2526 (by decide) (by simp only [cN]; have q1 := k2526; unfold Rg at q1; omega)) kc2541_0 (hg_97 ex2539 kc2541_0))), (rg_w k2590 (by decide)), (rg_w (rg_lit (n := 1) (by decide)) (by decide)), (rg_w (rg_lit (n := 1) (by decide)) (by decide)), k2578, hP.sub (ws' := [(aw, .inl (cI, 2179, .inl fw)), (aP, .inl (cB, 400, .inl ft)), (ac, .inl (cI, 6060, .inl fc)), (h, oX11 0 aw ai ab ac hi re aP 0 0 ta be de fa a5 sp av an ak ne aW aC ag aT aN aF)]) [0, 1, 2, 3] rfl, hD.sub (ws' := [(aw, .inl (cI, 2179, .inl fw)), (aP, .inl (cB, 400, .inl ft)), (ac, .inl (cI, 6060, .inl fc)), (h, oX11 0 aw ai ab ac hi re aP 0 0 ta be de fa a5 sp av an ak ne aW aC ag aT aN aF)]) [0, 1, 2, 3] (by decide) rfl, hS, lv_sub (l' := [(4, .int x2589), (3, .int 1), (2, .int 1), (1, .int x2577), (0, .ref h)]) hl [0, 1, 3, 2, 5] rfl⟩
          refine lv_if_ne (tgt := 95) hx hb dX11_hang_78 (by decide) (fun c2591 => ?_) (fun c2591 => ?_)
          · skip
            have k2592 : Rg y966 1 1 := rg_n1 (neI c2591) hy966 (rg_lit (n := 0) (by decide)) (by decide)
            exact hJ95 () _ _ _ ⟨hP.sub (ws' := [(aw, .inl (cI, 2179, .inl fw)), (aP, .inl (cB, 400, .inl ft)), (ac, .inl (cI, 6060, .inl fc)), (h, oX11 0 aw ai ab ac hi re aP 0 0 ta be de fa a5 sp av an ak ne aW aC ag aT aN aF)]) [0, 1, 2, 3] rfl, hD.sub (ws' := [(aw, .inl (cI, 2179, .inl fw)), (aP, .inl (cB, 400, .inl ft)), (ac, .inl (cI, 6060, .inl fc)), (h, oX11 0 aw ai ab ac hi re aP 0 0 ta be de fa a5 sp av an ak ne aW aC ag aT aN aF)]) [0, 1, 2, 3] (by decide) rfl, hS, lv_sub (l' := [(1, .int x2577), (2, .int 1), (5, .int x2539), (4, .int y965), (3, .int y966), (0, .ref h)]) hl [0, 1, 2, 3, 4, 5] rfl⟩
          · skip
            have k2593 : Rg y966 0 0 := rg_q1 (eqI c2591) hy966 (rg_lit (n := 0) (by decide)) (by decide)
            refine lv_iload_n hx hb dX11_hang_81 rfl (lv_at hl 1 rfl) ?_
            refine lv_if_eq (tgt := 99) hx hb dX11_hang_82 (by decide) (fun c2601 => absurd c2601 (by decide)) (fun _ => ?_)
            refine lv_aload_n hx hb dX11_hang_85 rfl (lv_at hl 5 rfl) ?_
            refine lv_iload hx hb dX11_hang_86 (lv_at hl 2 rfl) ?_
            refine lv_iconst (v := 5) hx hb dX11_hang_88 (by decide) ?_
            refine kpurei (wc := [(h, oX11 0 aw ai ab ac hi re aP 0 0 ta be de fa a5 sp av an ak ne aW aC ag aT aN aF), (aw, .inl (cI, 2179, .inl fw))]) hP hD hS hA [3, 0] rfl (by decide) (fun hPc hDc hFc => va_runV (As := [.int x2539, .int 5]) (rest := []) ⟨hx, hb, hml, hown, hts⟩ (r_of5 l D cI cJ cB cC h 0 aw ai ab ac hi re aP 0 0 ta be de fa a5 sp av an ak ne aW aC ag aT aN aF fw x2539 H.size kc2541_0 H_fw_W) (cwV 2 hts gX11_hang_X11_of rfl rfl rfl ⟨rfl, hdX11_of⟩ ⟨Nat.le_of_ble_eq_true rfl, Nat.le_of_ble_eq_true rfl⟩) ⟨kBlind, va_recv hK hPc (ci := 10) (q0 := 0) rfl rfl, fun U hU hW => ⟨rfl, by rw [hU], hN.warm hW, hE.pass hS hFc hW hU, by rw [hU]; exact hPc, va_K.moved hW.alike hK, hDc⟩⟩ rfl rfl hl.1 rfl (lv_room (Nat.le_of_ble_eq_true rfl)) dX11_hang_89 ⟨Nat.le_of_ble_eq_true rfl, Nat.le_of_ble_eq_true rfl⟩) (fun r2602 u H locs hw hP hS => ?_)
            obtain ⟨k2603, k2604⟩ := hw
            refine lv_if_lt (tgt := 99) hx hb dX11_hang_92 (by decide) (fun c2605 => ?_) (fun c2605 => ?_)
            · skip
              have k2606 : Rg r2602 (-1) (-1) := rg_l1 (ltI c2605) k2604 (rg_lit (n := 0) (by decide)) (by decide)
              refine lv_iconst (v := 0) hx hb dX11_hang_99 (by decide) ?_
              refine lv_istore_n (lv' := [(3, .int 0), (1, .int x2577), (2, .int 1), (5, .int x2539), (4, .int y965), (0, .ref h)]) hx hb dX11_hang_100 rfl hl (by decide) rfl (fun ls hl => ?_)
              obtain ⟨x2607, ex2607⟩ : ∃ y : Int32, y = y965 + 1 := ⟨_, rfl⟩
              refine lv_iinc (v := x2607) (lv' := [(4, .int x2607), (3, .int 0), (1, .int x2577), (2, .int 1), (5, .int x2539), (0, .ref h)]) hx hb dX11_hang_101 hl (k := 4) rfl (by rw [ex2607]; rfl) (by decide) rfl (fun ls hl => ?_)
              have k2608 : Rg x2607 1 400 := rg_add ex2607 k2526 (rg_lit (n := 1) (by decide)) (by decide)
              refine lv_goto (tgt := 13) hx hb dX11_hang_104 (by decide) ?_
              exact ih969 (x2607, (0 : Int32), (1 : Int32), x2577) _ _ _ (by show (400 - (x2607).toInt).toNat < (400 - (y965).toInt).toNat; exact mu_up ex2607 k2526 k2608 (by decide)) ⟨(Or.inr (hg_step ((hX13_0).resolve_left (by have q1 := neI c2528; have q2 : (0 : Int32).toInt = 0 := (by decide); omega)) (ti_add (Y := 1) ex2607 k2526 (rg_lit (n := 1) (by decide)) (by decide) rfl (by decide)) (by have q1 := k2526; unfold Rg at q1; omega) ex2538 (cl_of (k := cN y965) k2526 (by decide) (by simp only [cN]; have q1 := k2526; unfold Rg at q1; omega)) kc2541_0 (hg_97 ex2539 kc2541_0))), (rg_w k2608 (by decide)), (rg_w (rg_lit (n := 0) (by decide)) (by decide)), (rg_w (rg_lit (n := 1) (by decide)) (by decide)), k2578, hP.sub (ws' := [(aw, .inl (cI, 2179, .inl fw)), (aP, .inl (cB, 400, .inl ft)), (ac, .inl (cI, 6060, .inl fc)), (h, oX11 0 aw ai ab ac hi re aP 0 0 ta be de fa a5 sp av an ak ne aW aC ag aT aN aF)]) [0, 1, 2, 3] rfl, hD.sub (ws' := [(aw, .inl (cI, 2179, .inl fw)), (aP, .inl (cB, 400, .inl ft)), (ac, .inl (cI, 6060, .inl fc)), (h, oX11 0 aw ai ab ac hi re aP 0 0 ta be de fa a5 sp av an ak ne aW aC ag aT aN aF)]) [0, 1, 2, 3] (by decide) rfl, hS, lv_sub (l' := [(4, .int x2607), (3, .int 0), (2, .int 1), (1, .int x2577), (0, .ref h)]) hl [0, 1, 3, 2, 5] rfl⟩
            · skip
              have k2609 : Rg r2602 0 9 := rg_e2 (nltI c2605) (rg_lit (n := 0) (by decide)) k2604 (by decide)
              exact hJ95 () _ _ _ ⟨hP.sub (ws' := [(aw, .inl (cI, 2179, .inl fw)), (aP, .inl (cB, 400, .inl ft)), (ac, .inl (cI, 6060, .inl fc)), (h, oX11 0 aw ai ab ac hi re aP 0 0 ta be de fa a5 sp av an ak ne aW aC ag aT aN aF)]) [0, 1, 2, 3] rfl, hD.sub (ws' := [(aw, .inl (cI, 2179, .inl fw)), (aP, .inl (cB, 400, .inl ft)), (ac, .inl (cI, 6060, .inl fc)), (h, oX11 0 aw ai ab ac hi re aP 0 0 ta be de fa a5 sp av an ak ne aW aC ag aT aN aF)]) [0, 1, 2, 3] (by decide) rfl, hS, lv_sub (l' := [(1, .int x2577), (2, .int 1), (5, .int x2539), (4, .int y965), (3, .int y966), (0, .ref h)]) hl [0, 1, 2, 3, 4, 5] rfl⟩
      · skip
        refine lv_if_ne (tgt := 60) hx hb dX11_hang_44 (by decide) (fun _ => ?_) (fun c2611 => absurd c2611 (by decide))
        refine lv_iconst (v := 0) hx hb dX11_hang_60 (by decide) ?_
        refine lv_istore_n (lv' := [(2, .int 0), (5, .int x2539), (4, .int y965), (3, .int y966), (1, .int y968), (0, .ref h)]) hx hb dX11_hang_61 rfl hl (by decide) rfl (fun ls hl => ?_)
        refine lv_iload_n hx hb dX11_hang_62 rfl (lv_at hl 4 rfl) ?_
        refine lv_iload_n hx hb dX11_hang_63 rfl (lv_at hl 0 rfl) ?_
        refine lv_if_eq (tgt := 74) hx hb dX11_hang_64 (by decide) (fun _ => ?_) (fun c2613 => absurd (by decide) c2613)
        refine lv_iconst (v := 0) hx hb dX11_hang_74 (by decide) ?_
        refine lv_ior hx hb dX11_hang_75 ?_
        refine lv_topi (fun x2614 ex2614 => ?_)
        have k2615 : Rg x2614 0 4095 := rg_or 12 ex2614 hy968 (rg_lit (n := 0) (by decide)) (by decide)
        refine lv_istore_n (lv' := [(1, .int x2614), (2, .int 0), (5, .int x2539), (4, .int y965), (3, .int y966), (0, .ref h)]) hx hb dX11_hang_76 rfl hl (by decide) rfl (fun ls hl => ?_)
        refine lv_iload_n hx hb dX11_hang_77 rfl (lv_at hl 4 rfl) ?_
        refine lv_if_ne (tgt := 95) hx hb dX11_hang_78 (by decide) (fun c2620 => ?_) (fun c2620 => ?_)
        · skip
          have k2621 : Rg y966 1 1 := rg_n1 (neI c2620) hy966 (rg_lit (n := 0) (by decide)) (by decide)
          refine lv_iconst (v := 1) hx hb dX11_hang_95 (by decide) ?_
          refine lv_goto (tgt := 100) hx hb dX11_hang_96 (by decide) ?_
          refine lv_istore_n (lv' := [(3, .int 1), (1, .int x2614), (2, .int 0), (5, .int x2539), (4, .int y965), (0, .ref h)]) hx hb dX11_hang_100 rfl hl (by decide) rfl (fun ls hl => ?_)
          obtain ⟨x2622, ex2622⟩ : ∃ y : Int32, y = y965 + 1 := ⟨_, rfl⟩
          refine lv_iinc (v := x2622) (lv' := [(4, .int x2622), (3, .int 1), (1, .int x2614), (2, .int 0), (5, .int x2539), (0, .ref h)]) hx hb dX11_hang_101 hl (k := 4) rfl (by rw [ex2622]; rfl) (by decide) rfl (fun ls hl => ?_)
          have k2623 : Rg x2622 1 400 := rg_add ex2622 k2526 (rg_lit (n := 1) (by decide)) (by decide)
          refine lv_goto (tgt := 13) hx hb dX11_hang_104 (by decide) ?_
          exact ih969 (x2622, (1 : Int32), (0 : Int32), x2614) _ _ _ (by show (400 - (x2622).toInt).toNat < (400 - (y965).toInt).toNat; exact mu_up ex2622 k2526 k2623 (by decide)) ⟨(Or.inl (by decide)), (rg_w k2623 (by decide)), (rg_w (rg_lit (n := 1) (by decide)) (by decide)), (rg_w (rg_lit (n := 0) (by decide)) (by decide)), k2615, hP.sub (ws' := [(aw, .inl (cI, 2179, .inl fw)), (aP, .inl (cB, 400, .inl ft)), (ac, .inl (cI, 6060, .inl fc)), (h, oX11 0 aw ai ab ac hi re aP 0 0 ta be de fa a5 sp av an ak ne aW aC ag aT aN aF)]) [0, 1, 2, 3] rfl, hD.sub (ws' := [(aw, .inl (cI, 2179, .inl fw)), (aP, .inl (cB, 400, .inl ft)), (ac, .inl (cI, 6060, .inl fc)), (h, oX11 0 aw ai ab ac hi re aP 0 0 ta be de fa a5 sp av an ak ne aW aC ag aT aN aF)]) [0, 1, 2, 3] (by decide) rfl, hS, lv_sub (l' := [(4, .int x2622), (3, .int 1), (2, .int 0), (1, .int x2614), (0, .ref h)]) hl [0, 1, 3, 2, 5] rfl⟩
        · skip
          have k2624 : Rg y966 0 0 := rg_q1 (eqI c2620) hy966 (rg_lit (n := 0) (by decide)) (by decide)
          refine lv_iload_n hx hb dX11_hang_81 rfl (lv_at hl 1 rfl) ?_
          refine lv_if_eq (tgt := 99) hx hb dX11_hang_82 (by decide) (fun _ => ?_) (fun c2626 => absurd (by decide) c2626)
          refine lv_iconst (v := 0) hx hb dX11_hang_99 (by decide) ?_
          refine lv_istore_n (lv' := [(3, .int 0), (1, .int x2614), (2, .int 0), (5, .int x2539), (4, .int y965), (0, .ref h)]) hx hb dX11_hang_100 rfl hl (by decide) rfl (fun ls hl => ?_)
          obtain ⟨x2627, ex2627⟩ : ∃ y : Int32, y = y965 + 1 := ⟨_, rfl⟩
          refine lv_iinc (v := x2627) (lv' := [(4, .int x2627), (3, .int 0), (1, .int x2614), (2, .int 0), (5, .int x2539), (0, .ref h)]) hx hb dX11_hang_101 hl (k := 4) rfl (by rw [ex2627]; rfl) (by decide) rfl (fun ls hl => ?_)
          have k2628 : Rg x2627 1 400 := rg_add ex2627 k2526 (rg_lit (n := 1) (by decide)) (by decide)
          refine lv_goto (tgt := 13) hx hb dX11_hang_104 (by decide) ?_
          exact ih969 (x2627, (0 : Int32), (0 : Int32), x2614) _ _ _ (by show (400 - (x2627).toInt).toNat < (400 - (y965).toInt).toNat; exact mu_up ex2627 k2526 k2628 (by decide)) ⟨(Or.inl (by decide)), (rg_w k2628 (by decide)), (rg_w (rg_lit (n := 0) (by decide)) (by decide)), (rg_w (rg_lit (n := 0) (by decide)) (by decide)), k2615, hP.sub (ws' := [(aw, .inl (cI, 2179, .inl fw)), (aP, .inl (cB, 400, .inl ft)), (ac, .inl (cI, 6060, .inl fc)), (h, oX11 0 aw ai ab ac hi re aP 0 0 ta be de fa a5 sp av an ak ne aW aC ag aT aN aF)]) [0, 1, 2, 3] rfl, hD.sub (ws' := [(aw, .inl (cI, 2179, .inl fw)), (aP, .inl (cB, 400, .inl ft)), (ac, .inl (cI, 6060, .inl fc)), (h, oX11 0 aw ai ab ac hi re aP 0 0 ta be de fa a5 sp av an ak ne aW aC ag aT aN aF)]) [0, 1, 2, 3] (by decide) rfl, hS, lv_sub (l' := [(4, .int x2627), (3, .int 0), (2, .int 0), (1, .int x2614), (0, .ref h)]) hl [0, 1, 3, 2, 5] rfl⟩

