def kwX11_lines : List Cond := .code yX11_lines cX11_lines 5 (some .int) :: kG
theorem hdX11_lines : yX11_lines.cls ≠ "java/lang/invoke/MethodHandle" ∧ yX11_lines.cls ≠ "java/lang/invoke/VarHandle" ∧ (parseMethodDescriptor yX11_lines.desc).map (fun d => d.parameters.length) = some 1 := by decide +kernel
theorem gX11_lines_X11_in : GoodIn kG (va_wsS RX11 75 yX11_in kwX11_in) := gK w27_8 (gK w27_9 (gK w0_5 (gK w27_10 gGG)))
theorem gX11_lines_X11_linesFor : GoodIn kG (wsV RX11 353 RX11 yX11_linesFor kwX11_linesFor) := gK w50_7 (gK w50_8 (gK w50_9 (gK w0_5 (gK w50_10 gGG))))
theorem gX11_lines_X11_of : GoodIn kG (wsV RX11 156 RX11 yX11_of kwX11_of) := gK w21_9 (gK w21_10 (gK w21_11 (gK w0_5 (gK w21_12 gGG))))
theorem gX11_lines_X11_shirts : GoodIn kG (wsV RX11 79 RX11 yX11_shirts kwX11_shirts) := gK w20_17 (gK w20_18 (gK w20_19 (gK w0_5 (gK w20_20 gGG))))
theorem gX11_lines_X11_throwsIf : GoodIn kG (wsV RX11 258 RX11 yX11_throwsIf kwX11_throwsIf) := gK w23_6 (gK w23_7 (gK w23_8 (gK w0_5 (gK w23_9 gGG))))
theorem dX11_lines_0 : decode cX11_lines 0 = .ok (.aload_n 0, 1) := by decide +kernel
theorem dX11_lines_1 : decode cX11_lines 1 = .ok (.iconst 0, 1) := by decide +kernel
theorem dX11_lines_2 : decode cX11_lines 2 = .ok (.putfield 3, 3) := by decide +kernel
theorem dX11_lines_5 : decode cX11_lines 5 = .ok (.aload_n 0, 1) := by decide +kernel
theorem dX11_lines_6 : decode cX11_lines 6 = .ok (.iload_n 1, 1) := by decide +kernel
theorem dX11_lines_7 : decode cX11_lines 7 = .ok (.iconst 1, 1) := by decide +kernel
theorem dX11_lines_8 : decode cX11_lines 8 = .ok (.bipush 99, 2) := by decide +kernel
theorem dX11_lines_10 : decode cX11_lines 10 = .ok (.invokestatic 75, 3) := by decide +kernel
theorem dX11_lines_13 : decode cX11_lines 13 = .ok (.ifCond .ne 7, 3) := by decide +kernel
theorem dX11_lines_16 : decode cX11_lines 16 = .ok (.iconst 1, 1) := by decide +kernel
theorem dX11_lines_17 : decode cX11_lines 17 = .ok (.goto 4, 3) := by decide +kernel
theorem dX11_lines_20 : decode cX11_lines 20 = .ok (.iconst 0, 1) := by decide +kernel
theorem dX11_lines_21 : decode cX11_lines 21 = .ok (.iconst 1, 1) := by decide +kernel
theorem dX11_lines_22 : decode cX11_lines 22 = .ok (.invokevirtual 258, 3) := by decide +kernel
theorem dX11_lines_25 : decode cX11_lines 25 = .ok (.ifCond .eq 5, 3) := by decide +kernel
theorem dX11_lines_28 : decode cX11_lines 28 = .ok (.iconst 0, 1) := by decide +kernel
theorem dX11_lines_29 : decode cX11_lines 29 = .ok (.ireturn, 1) := by decide +kernel
theorem dX11_lines_30 : decode cX11_lines 30 = .ok (.iconst 0, 1) := by decide +kernel
theorem dX11_lines_31 : decode cX11_lines 31 = .ok (.istore_n 2, 1) := by decide +kernel
theorem dX11_lines_32 : decode cX11_lines 32 = .ok (.iconst 0, 1) := by decide +kernel
theorem dX11_lines_33 : decode cX11_lines 33 = .ok (.istore_n 3, 1) := by decide +kernel
theorem dX11_lines_34 : decode cX11_lines 34 = .ok (.iconst 0, 1) := by decide +kernel
theorem dX11_lines_35 : decode cX11_lines 35 = .ok (.istore 4, 2) := by decide +kernel
theorem dX11_lines_37 : decode cX11_lines 37 = .ok (.iload 4, 2) := by decide +kernel
theorem dX11_lines_39 : decode cX11_lines 39 = .ok (.aload_n 0, 1) := by decide +kernel
theorem dX11_lines_40 : decode cX11_lines 40 = .ok (.invokevirtual 79, 3) := by decide +kernel
theorem dX11_lines_43 : decode cX11_lines 43 = .ok (.if_icmp .ge 64, 3) := by decide +kernel
theorem dX11_lines_46 : decode cX11_lines 46 = .ok (.aload_n 0, 1) := by decide +kernel
theorem dX11_lines_47 : decode cX11_lines 47 = .ok (.iload 4, 2) := by decide +kernel
theorem dX11_lines_49 : decode cX11_lines 49 = .ok (.iconst 5, 1) := by decide +kernel
theorem dX11_lines_50 : decode cX11_lines 50 = .ok (.invokevirtual 156, 3) := by decide +kernel
theorem dX11_lines_53 : decode cX11_lines 53 = .ok (.ifCond .lt 6, 3) := by decide +kernel
theorem dX11_lines_56 : decode cX11_lines 56 = .ok (.goto 45, 3) := by decide +kernel
theorem dX11_lines_59 : decode cX11_lines 59 = .ok (.iconst 1, 1) := by decide +kernel
theorem dX11_lines_60 : decode cX11_lines 60 = .ok (.aload_n 0, 1) := by decide +kernel
theorem dX11_lines_61 : decode cX11_lines 61 = .ok (.iload 4, 2) := by decide +kernel
theorem dX11_lines_63 : decode cX11_lines 63 = .ok (.iconst 3, 1) := by decide +kernel
theorem dX11_lines_64 : decode cX11_lines 64 = .ok (.invokevirtual 156, 3) := by decide +kernel
theorem dX11_lines_67 : decode cX11_lines 67 = .ok (.iadd, 1) := by decide +kernel
theorem dX11_lines_68 : decode cX11_lines 68 = .ok (.iload_n 1, 1) := by decide +kernel
theorem dX11_lines_69 : decode cX11_lines 69 = .ok (.if_icmp .le 5, 3) := by decide +kernel
theorem dX11_lines_72 : decode cX11_lines 72 = .ok (.iconst (-1), 1) := by decide +kernel
theorem dX11_lines_73 : decode cX11_lines 73 = .ok (.ireturn, 1) := by decide +kernel
theorem dX11_lines_74 : decode cX11_lines 74 = .ok (.aload_n 0, 1) := by decide +kernel
theorem dX11_lines_75 : decode cX11_lines 75 = .ok (.iload 4, 2) := by decide +kernel
theorem dX11_lines_77 : decode cX11_lines 77 = .ok (.iconst 0, 1) := by decide +kernel
theorem dX11_lines_78 : decode cX11_lines 78 = .ok (.invokevirtual 156, 3) := by decide +kernel
theorem dX11_lines_81 : decode cX11_lines 81 = .ok (.ifCond .ne 13, 3) := by decide +kernel
theorem dX11_lines_84 : decode cX11_lines 84 = .ok (.iload_n 2, 1) := by decide +kernel
theorem dX11_lines_85 : decode cX11_lines 85 = .ok (.iconst 1, 1) := by decide +kernel
theorem dX11_lines_86 : decode cX11_lines 86 = .ok (.iload 4, 2) := by decide +kernel
theorem dX11_lines_88 : decode cX11_lines 88 = .ok (.ishl, 1) := by decide +kernel
theorem dX11_lines_89 : decode cX11_lines 89 = .ok (.ior, 1) := by decide +kernel
theorem dX11_lines_90 : decode cX11_lines 90 = .ok (.istore_n 2, 1) := by decide +kernel
theorem dX11_lines_91 : decode cX11_lines 91 = .ok (.goto 10, 3) := by decide +kernel
theorem dX11_lines_94 : decode cX11_lines 94 = .ok (.iload_n 3, 1) := by decide +kernel
theorem dX11_lines_95 : decode cX11_lines 95 = .ok (.iconst 1, 1) := by decide +kernel
theorem dX11_lines_96 : decode cX11_lines 96 = .ok (.iload 4, 2) := by decide +kernel
theorem dX11_lines_98 : decode cX11_lines 98 = .ok (.ishl, 1) := by decide +kernel
theorem dX11_lines_99 : decode cX11_lines 99 = .ok (.ior, 1) := by decide +kernel
theorem dX11_lines_100 : decode cX11_lines 100 = .ok (.istore_n 3, 1) := by decide +kernel
theorem dX11_lines_101 : decode cX11_lines 101 = .ok (.iinc 4 1, 3) := by decide +kernel
theorem dX11_lines_104 : decode cX11_lines 104 = .ok (.goto (-67), 3) := by decide +kernel
theorem dX11_lines_107 : decode cX11_lines 107 = .ok (.aload_n 0, 1) := by decide +kernel
theorem dX11_lines_108 : decode cX11_lines 108 = .ok (.iload_n 2, 1) := by decide +kernel
theorem dX11_lines_109 : decode cX11_lines 109 = .ok (.iload_n 1, 1) := by decide +kernel
theorem dX11_lines_110 : decode cX11_lines 110 = .ok (.invokevirtual 353, 3) := by decide +kernel
theorem dX11_lines_113 : decode cX11_lines 113 = .ok (.aload_n 0, 1) := by decide +kernel
theorem dX11_lines_114 : decode cX11_lines 114 = .ok (.iload_n 3, 1) := by decide +kernel
theorem dX11_lines_115 : decode cX11_lines 115 = .ok (.iload_n 1, 1) := by decide +kernel
theorem dX11_lines_116 : decode cX11_lines 116 = .ok (.invokevirtual 353, 3) := by decide +kernel
theorem dX11_lines_119 : decode cX11_lines 119 = .ok (.iadd, 1) := by decide +kernel
theorem dX11_lines_120 : decode cX11_lines 120 = .ok (.ireturn, 1) := by decide +kernel
set_option maxHeartbeats 4000000 in
set_option maxRecDepth 100000 in
/-- reference: lines -/
theorem r_lines (l : Launch) (D : va_G) (cI cJ cB cC : ClassId) (h : Nat) (th : Int32) (aw : Nat) (ai : Nat) (ab : Nat) (ac : Nat) (hi : Int32) (re : Int32) (aP : Nat) (ta : Int32) (po : Int32) (en : Int32) (be : Int32) (de : Int32) (fa : Int32) (a5 : Nat) (sp : Int32) (av : Nat) (an : Nat) (ak : Nat) (ne : Int32) (aW : Nat) (aC : Nat) (ag : Nat) (aT : Nat) (aN : Nat) (aF : Nat) (fw : Nat → Int32) (fF : Nat → Int32) (b : Int32) (sz : Nat) (H_fw_W : wW fw) : Met l yX11_lines kwX11_lines ({ frames := 2, cells := 0, slots := 0, locals := 50 } : Room) (kPre D (kT cI cJ cB cC) sz [(h, oX11 th aw ai ab ac hi re aP ta po en be de fa a5 sp av an ak ne aW aC ag aT aN aF), (aw, kcI cI 2179 fw), (aF, kcI cI 4096 fF)] [.ref h, .int b]) (va_Qi (fun (r : Int32) (uu : Int32 × (Nat → Int32)) => match uu with | (n0_, f1_) => F_r_lines (gT fw) (gT fF) (b : Int32).toInt = ((r : Int32).toInt, (n0_ : Int32).toInt, (gT f1_))) (fun (uu : Int32 × (Nat → Int32)) (t : State) => match uu with | (n0_, f1_) => kB D (kT cI cJ cB cC) (va_A [(h, oX11 th aw ai ab ac hi re aP ta po en be de fa a5 sp av an ak ne aW aC ag aT aN aF), (aw, kcI cI 2179 fw), (aF, kcI cI 4096 fF)] sz) [(h, oX11 n0_ aw ai ab ac hi re aP ta po en be de fa a5 sp av an ak ne aW aC ag aT aN aF), (aw, kcI cI 2179 fw), (aF, kcI cI 4096 f1_)] t) (va_A [(h, oX11 th aw ai ab ac hi re aP ta po en be de fa a5 sp av an ak ne aW aC ag aT aN aF), (aw, kcI cI 2179 fw), (aF, kcI cI 4096 fF)] sz)) 0 0 (va_A [(h, oX11 th aw ai ab ac hi re aP ta po en be de fa a5 sp av an ak ne aW aC ag aT aN aF), (aw, kcI cI 2179 fw), (aF, kcI cI 4096 fF)] sz) := by
  refine Met.ofW (cc := cX11_lines) (maxL := 5) (ret := (some .int)) (by decide) rfl ?_
  intro p e s m args below meth c s₁ B hml hv
  obtain ⟨rfl, hsz, hN, hE, hP, hK, hD0⟩ := hv
  have hx := B.exec
  have hb := B.bytes
  have hr := B.returns
  have hts := fun (w : Cond) (h : w ∈ kG) => atoms_spec (ws := kwX11_lines) B.pre w (List.mem_cons_of_mem _ h)
  have hown : s.vm.findClass RX11 = some m.cls := findClass_of_methodNamed B.named
  subst hsz
  have hD := hD0.self (sz := s.heap.size)
  generalize hAe : va_A [(h, oX11 th aw ai ab ac hi re aP ta po en be de fa a5 sp av an ak ne aW aC ag aT aN aF), (aw, kcI cI 2179 fw), (aF, kcI cI 4096 fF)] s.heap.size = A at hD hE ⊢
  have hA : ∀ q : Nat, s.heap.size ≤ q → A q := fun q h => by rw [← hAe]; exact Or.inr h
  have hl := lv_entry ([.ref h, .int b]) (n := 5) (Nat.le_of_ble_eq_true rfl)
  rw [lg_entry_eq]
  generalize (lg_sl ([.ref h, .int b]) ++ List.replicate (5 - (lg_sl ([.ref h, .int b])).length) Slot.unset).toArray = ls at hl ⊢
  have hl : lv_has ls 5 [(0, .ref h), (1, .int b)] := hl
  obtain ⟨H, hH0⟩ : ∃ H, H = s.heap := ⟨_, rfl⟩
  have hS : va_S A s.heap H [] := by rw [hH0]; exact va_S.rf
  have hP : va_P D vwCl [(h, oX11 th aw ai ab ac hi re aP ta po en be de fa a5 sp av an ak ne aW aC ag aT aN aF), (aw, kcI cI 2179 fw), (aF, kcI cI 4096 fF)] H := by rw [hH0]; exact hP
  refine kHeap hH0 ?_
  clear hH0
  refine lv_aload_n hx hb dX11_lines_0 rfl (lv_at hl 0 rfl) ?_
  refine lv_iconst (v := 0) hx hb dX11_lines_1 (by decide) ?_
  refine va_put (D := D) (ci := 10) (v := .int 0) (ty := .int) (C := RX11) (T := TX11) (N := 26) hx hb hts iG_X11 tyX11 tyX11_ok nmX11 hown hK hP hD hS 0 rfl rfl 0 (by decide) (hts _ w6_8) (fun _ h9 => h9) rfl (by decide +kernel) rfl rfl (Nat.le_of_ble_eq_true rfl) dX11_lines_2 (fun H locs hP hD hS => ?_)
  have hP : va_P D vwCl [(h, oX11 0 aw ai ab ac hi re aP ta po en be de fa a5 sp av an ak ne aW aC ag aT aN aF), (aw, kcI cI 2179 fw), (aF, kcI cI 4096 fF)] H := hP
  have hD : va_D A [(h, oX11 0 aw ai ab ac hi re aP ta po en be de fa a5 sp av an ak ne aW aC ag aT aN aF), (aw, kcI cI 2179 fw), (aF, kcI cI 4096 fF)] := hD
  refine lv_aload_n hx hb dX11_lines_5 rfl (lv_at hl 0 rfl) ?_
  refine lv_iload_n hx hb dX11_lines_6 rfl (lv_at hl 1 rfl) ?_
  refine lv_iconst (v := 1) hx hb dX11_lines_7 (by decide) ?_
  refine lv_bipush (v := 99) hx hb dX11_lines_8 (by decide) ?_
  refine kpurei (wc := []) hP hD hS hA [] rfl (by decide) (fun hPc hDc hFc => va_runS (As := [.int b, .int 1, .int 99]) (rest := [.ref h]) ⟨hx, hb, hml, hown, hts⟩ (r_in_1_99 l D cI cJ cB cC b H.size) (va_cwS 3 hts gX11_lines_X11_in rfl rfl rfl hdX11_in ⟨Nat.le_of_ble_eq_true rfl, Nat.le_of_ble_eq_true rfl⟩) ⟨kBlind, fun U hU hW => ⟨rfl, by rw [hU], hN.warm hW, hE.pass hS hFc hW hU, by rw [hU]; exact hPc, va_K.moved hW.alike hK, hDc⟩⟩ rfl rfl hl.1 rfl (lv_room (Nat.le_of_ble_eq_true rfl)) dX11_lines_10 ⟨Nat.le_of_ble_eq_true rfl, Nat.le_of_ble_eq_true rfl⟩) (fun r1 u H locs hw hP hS => ?_)
  obtain ⟨k2, hw⟩ := hw
  rcases hw with rfl | ⟨rfl, kc3_0⟩
  · skip
    refine lv_if_ne (tgt := 20) hx hb dX11_lines_13 (by decide) (fun c5 => absurd (by decide) c5) (fun _ => ?_)
    refine lv_iconst (v := 1) hx hb dX11_lines_16 (by decide) ?_
    refine lv_goto (tgt := 21) hx hb dX11_lines_17 (by decide) ?_
    refine lv_iconst (v := 1) hx hb dX11_lines_21 (by decide) ?_
    refine kcalli (wc := [(h, oX11 0 aw ai ab ac hi re aP ta po en be de fa a5 sp av an ak ne aW aC ag aT aN aF)]) (wr := [(aw, kcI cI 2179 fw), (aF, kcI cI 4096 fF)]) hP hD hS hA [0] [1, 2] rfl rfl (by decide) (by decide) (by decide) (fun hPc hDc hFc => va_runV (As := [.int 1, .int 1]) (rest := []) ⟨hx, hb, hml, hown, hts⟩ (r_throwsIf1_1 l D cI cJ cB cC h 0 aw ai ab ac hi re aP ta po en be de fa a5 sp av an ak ne aW aC ag aT aN aF 1 H.size) (cwV 2 hts gX11_lines_X11_throwsIf rfl rfl rfl ⟨rfl, hdX11_throwsIf⟩ ⟨Nat.le_of_ble_eq_true rfl, Nat.le_of_ble_eq_true rfl⟩) ⟨kBlind, va_recv hK hPc (ci := 10) (q0 := 0) rfl rfl, fun U hU hW => ⟨rfl, by rw [hU], hN.warm hW, hE.pass hS hFc hW hU, by rw [hU]; exact hPc, va_K.moved hW.alike hK, hDc⟩⟩ rfl rfl hl.1 rfl (lv_room (Nat.le_of_ble_eq_true rfl)) dX11_lines_22 ⟨Nat.le_of_ble_eq_true rfl, Nat.le_of_ble_eq_true rfl⟩) (fun r6 u H locs hw hP hD hS => ?_)
    obtain ⟨x7, rfl⟩ : ∃ z, z = u := ⟨_, rfl⟩
    have hP : va_P D vwCl [(aw, kcI cI 2179 fw), (aF, kcI cI 4096 fF), (h, oX11 x7 aw ai ab ac hi re aP ta po en be de fa a5 sp av an ak ne aW aC ag aT aN aF)] H := hP
    have hD : va_D A [(aw, kcI cI 2179 fw), (aF, kcI cI 4096 fF), (h, oX11 x7 aw ai ab ac hi re aP ta po en be de fa a5 sp av an ak ne aW aC ag aT aN aF)] := hD
    obtain ⟨k8, k9⟩ := hw
    refine lv_if_eq (tgt := 30) hx hb dX11_lines_25 (by decide) (fun c10 => absurd c10 (rg_neq k8 (rg_lit (n := 0) (by decide)) (by decide))) (fun _ => ?_)
    refine lv_iconst (v := 0) hx hb dX11_lines_28 (by decide) ?_
    have hP9 := hP.sub (ws' := [(h, oX11 x7 aw ai ab ac hi re aP ta po en be de fa a5 sp av an ak ne aW aC ag aT aN aF), (aw, kcI cI 2179 fw), (aF, kcI cI 4096 fF)]) [2, 0, 1] rfl
    have hD9 := hD.sub (ws' := [(h, oX11 x7 aw ai ab ac hi re aP ta po en be de fa a5 sp av an ak ne aW aC ag aT aN aF), (aw, kcI cI 2179 fw), (aF, kcI cI 4096 fF)]) [2, 0, 1] (by decide) rfl
    exact W.iret (v := 0) hx hb hr (fun t ht hW => ⟨⟨0, (x7, fF), rfl, (kLet_eq (k2).symm (kif_t rfl (kC_eq k9 rfl))), by rw [ht]; exact hP9, va_K.moved hW.alike hK, hD9⟩, hS.F ht⟩) hS.2.2 dX11_lines_29
  · skip
    refine lv_if_ne (tgt := 20) hx hb dX11_lines_13 (by decide) (fun _ => ?_) (fun c12 => absurd c12 (by decide))
    refine lv_iconst (v := 0) hx hb dX11_lines_20 (by decide) ?_
    refine lv_iconst (v := 1) hx hb dX11_lines_21 (by decide) ?_
    refine kpurei (wc := [(h, oX11 0 aw ai ab ac hi re aP ta po en be de fa a5 sp av an ak ne aW aC ag aT aN aF)]) hP hD hS hA [0] rfl (by decide) (fun hPc hDc hFc => va_runV (As := [.int 0, .int 1]) (rest := []) ⟨hx, hb, hml, hown, hts⟩ (r_throwsIf0_1 l D cI cJ cB cC h 0 aw ai ab ac hi re aP ta po en be de fa a5 sp av an ak ne aW aC ag aT aN aF 1 H.size) (cwV 2 hts gX11_lines_X11_throwsIf rfl rfl rfl ⟨rfl, hdX11_throwsIf⟩ ⟨Nat.le_of_ble_eq_true rfl, Nat.le_of_ble_eq_true rfl⟩) ⟨kBlind, va_recv hK hPc (ci := 10) (q0 := 0) rfl rfl, fun U hU hW => ⟨rfl, by rw [hU], hN.warm hW, hE.pass hS hFc hW hU, by rw [hU]; exact hPc, va_K.moved hW.alike hK, hDc⟩⟩ rfl rfl hl.1 rfl (lv_room (Nat.le_of_ble_eq_true rfl)) dX11_lines_22 ⟨Nat.le_of_ble_eq_true rfl, Nat.le_of_ble_eq_true rfl⟩) (fun r13 u H locs hw hP hS => ?_)
    obtain ⟨k14, k15⟩ := hw
    refine lv_if_eq (tgt := 30) hx hb dX11_lines_25 (by decide) (fun _ => ?_) (fun c16 => absurd (rg_eq k14 (rg_lit (n := 0) (by decide)) (by decide)) c16)
    refine lv_iconst (v := 0) hx hb dX11_lines_30 (by decide) ?_
    refine lv_istore_n (lv' := [(2, .int 0), (0, .ref h), (1, .int b)]) hx hb dX11_lines_31 rfl hl (by decide) rfl (fun ls hl => ?_)
    refine lv_iconst (v := 0) hx hb dX11_lines_32 (by decide) ?_
    refine lv_istore_n (lv' := [(3, .int 0), (2, .int 0), (0, .ref h), (1, .int b)]) hx hb dX11_lines_33 rfl hl (by decide) rfl (fun ls hl => ?_)
    refine lv_iconst (v := 0) hx hb dX11_lines_34 (by decide) ?_
    refine lv_istore (lv' := [(4, .int 0), (3, .int 0), (2, .int 0), (0, .ref h), (1, .int b)]) hx hb dX11_lines_35 hl (by decide) rfl (fun ls hl => ?_)
    refine k_loop (hd := 37) (fun (u : Int32 × Int32 × Int32) => match u with | (y660, y661, y662) => (12 - (y660).toInt).toNat) (fun (u : Int32 × Int32 × Int32) (H : Heap) (locs : List Loc) (ls : Array Slot) => match u with | (y660, y661, y662) => (F_r_lines (gT fw) (gT fF) b.toInt = F_r_lines_l1 (gT fw) (gT fF) b.toInt (y660.toInt, y661.toInt, y662.toInt)) ∧ Rg y660 0 12 ∧ Rg y661 0 4095 ∧ Rg y662 0 4095 ∧ va_P D vwCl [(h, oX11 0 aw ai ab ac hi re aP ta po en be de fa a5 sp av an ak ne aW aC ag aT aN aF), (aw, kcI cI 2179 fw), (aF, kcI cI 4096 fF)] H ∧ va_D A [(h, oX11 0 aw ai ab ac hi re aP ta po en be de fa a5 sp av an ak ne aW aC ag aT aN aF), (aw, kcI cI 2179 fw), (aF, kcI cI 4096 fF)] ∧ va_S A s.heap H locs ∧ lv_has ls 5 [(4, .int y660), (3, .int y661), (2, .int y662), (0, .ref h), (1, .int b)]) ((0 : Int32), (0 : Int32), (0 : Int32)) ⟨(kLet_eq (k2).symm (kif_f (by decide) (kLet_eq (k15).symm rfl))), (rg_w (rg_lit (n := 0) (by decide)) (by decide)), (rg_w (rg_lit (n := 0) (by decide)) (by decide)), (rg_w (rg_lit (n := 0) (by decide)) (by decide)), hP.sub (ws' := [(h, oX11 0 aw ai ab ac hi re aP ta po en be de fa a5 sp av an ak ne aW aC ag aT aN aF), (aw, kcI cI 2179 fw), (aF, kcI cI 4096 fF)]) [0, 1, 2] rfl, hD.sub (ws' := [(h, oX11 0 aw ai ab ac hi re aP ta po en be de fa a5 sp av an ak ne aW aC ag aT aN aF), (aw, kcI cI 2179 fw), (aF, kcI cI 4096 fF)]) [0, 1, 2] (by decide) rfl, hS, lv_sub (l' := [(4, .int 0), (3, .int 0), (2, .int 0), (0, .ref h), (1, .int b)]) hl [0, 1, 2, 3, 4] rfl⟩ (fun u H locs ls hI ih663 => ?_)
    clear hP hD hS hl
    obtain ⟨y660, y661, y662⟩ := u
    obtain ⟨hF1, hy660, hy661, hy662, hP, hD, hS, hl⟩ := hI
    have hP : va_P D vwCl [(h, oX11 0 aw ai ab ac hi re aP ta po en be de fa a5 sp av an ak ne aW aC ag aT aN aF), (aw, kcI cI 2179 fw), (aF, kcI cI 4096 fF)] H := hP
    have hD : va_D A [(h, oX11 0 aw ai ab ac hi re aP ta po en be de fa a5 sp av an ak ne aW aC ag aT aN aF), (aw, kcI cI 2179 fw), (aF, kcI cI 4096 fF)] := hD
    have hl : lv_has ls 5 [(4, .int y660), (3, .int y661), (2, .int y662), (0, .ref h), (1, .int b)] := hl
    refine lv_iload hx hb dX11_lines_37 (lv_at hl 0 rfl) ?_
    refine lv_aload_n hx hb dX11_lines_39 rfl (lv_at hl 3 rfl) ?_
    refine kpurei (wc := [(h, oX11 0 aw ai ab ac hi re aP ta po en be de fa a5 sp av an ak ne aW aC ag aT aN aF), (aw, kcI cI 2179 fw)]) hP hD hS hA [0, 1] rfl (by decide) (fun hPc hDc hFc => va_runV (As := []) (rest := [.int y660]) ⟨hx, hb, hml, hown, hts⟩ (r_shirts l D cI cJ cB cC h 0 aw ai ab ac hi re aP ta po en be de fa a5 sp av an ak ne aW aC ag aT aN aF fw H.size H_fw_W) (cwV 0 hts gX11_lines_X11_shirts rfl rfl rfl ⟨rfl, hdX11_shirts⟩ ⟨Nat.le_of_ble_eq_true rfl, Nat.le_of_ble_eq_true rfl⟩) ⟨kBlind, va_recv hK hPc (ci := 10) (q0 := 0) rfl rfl, fun U hU hW => ⟨rfl, by rw [hU], hN.warm hW, hE.pass hS hFc hW hU, by rw [hU]; exact hPc, va_K.moved hW.alike hK, hDc⟩⟩ rfl rfl hl.1 rfl (lv_room (Nat.le_of_ble_eq_true rfl)) dX11_lines_40 ⟨Nat.le_of_ble_eq_true rfl, Nat.le_of_ble_eq_true rfl⟩) (fun r664 u H locs hw hP hS => ?_)
    obtain ⟨k665, k666, k667⟩ := hw
    refine lv_icmp_ge (tgt := 107) hx hb dX11_lines_43 (by decide) (fun c668 => ?_) (fun c668 => ?_)
    · skip
      refine lv_aload_n hx hb dX11_lines_107 rfl (lv_at hl 3 rfl) ?_
      refine lv_iload_n hx hb dX11_lines_108 rfl (lv_at hl 2 rfl) ?_
      refine lv_iload_n hx hb dX11_lines_109 rfl (lv_at hl 4 rfl) ?_
      refine kcalli (wc := [(h, oX11 0 aw ai ab ac hi re aP ta po en be de fa a5 sp av an ak ne aW aC ag aT aN aF), (aw, kcI cI 2179 fw), (aF, kcI cI 4096 fF)]) (wr := []) hP hD hS hA [0, 1, 2] [] rfl rfl (by decide) (by decide) (by decide) (fun hPc hDc hFc => va_runV (As := [.int y662, .int b]) (rest := []) ⟨hx, hb, hml, hown, hts⟩ (r_linesFor l D cI cJ cB cC h 0 aw ai ab ac hi re aP ta po en be de fa a5 sp av an ak ne aW aC ag aT aN aF fw fF y662 b H.size hy662 H_fw_W) (cwV 2 hts gX11_lines_X11_linesFor rfl rfl rfl ⟨rfl, hdX11_linesFor⟩ ⟨Nat.le_of_ble_eq_true rfl, Nat.le_of_ble_eq_true rfl⟩) ⟨kBlind, va_recv hK hPc (ci := 10) (q0 := 0) rfl rfl, fun U hU hW => ⟨rfl, by rw [hU], hN.warm hW, hE.pass hS hFc hW hU, by rw [hU]; exact hPc, va_K.moved hW.alike hK, hDc⟩⟩ rfl rfl hl.1 rfl (lv_room (Nat.le_of_ble_eq_true rfl)) dX11_lines_110 ⟨Nat.le_of_ble_eq_true rfl, Nat.le_of_ble_eq_true rfl⟩) (fun r669 u H locs hw hP hD hS => ?_)
      obtain ⟨g670, rfl⟩ : ∃ z, z = u := ⟨_, rfl⟩
      have hP : va_P D vwCl [(h, oX11 0 aw ai ab ac hi re aP ta po en be de fa a5 sp av an ak ne aW aC ag aT aN aF), (aw, kcI cI 2179 fw), (aF, kcI cI 4096 g670)] H := hP
      have hD : va_D A [(h, oX11 0 aw ai ab ac hi re aP ta po en be de fa a5 sp av an ak ne aW aC ag aT aN aF), (aw, kcI cI 2179 fw), (aF, kcI cI 4096 g670)] := hD
      have k671 := hw
      refine lv_aload_n hx hb dX11_lines_113 rfl (lv_at hl 3 rfl) ?_
      refine lv_iload_n hx hb dX11_lines_114 rfl (lv_at hl 1 rfl) ?_
      refine lv_iload_n hx hb dX11_lines_115 rfl (lv_at hl 4 rfl) ?_
      refine kcalli (wc := [(h, oX11 0 aw ai ab ac hi re aP ta po en be de fa a5 sp av an ak ne aW aC ag aT aN aF), (aw, kcI cI 2179 fw), (aF, kcI cI 4096 g670)]) (wr := []) hP hD hS hA [0, 1, 2] [] rfl rfl (by decide) (by decide) (by decide) (fun hPc hDc hFc => va_runV (As := [.int y661, .int b]) (rest := [.int r669]) ⟨hx, hb, hml, hown, hts⟩ (r_linesFor l D cI cJ cB cC h 0 aw ai ab ac hi re aP ta po en be de fa a5 sp av an ak ne aW aC ag aT aN aF fw g670 y661 b H.size hy661 H_fw_W) (cwV 2 hts gX11_lines_X11_linesFor rfl rfl rfl ⟨rfl, hdX11_linesFor⟩ ⟨Nat.le_of_ble_eq_true rfl, Nat.le_of_ble_eq_true rfl⟩) ⟨kBlind, va_recv hK hPc (ci := 10) (q0 := 0) rfl rfl, fun U hU hW => ⟨rfl, by rw [hU], hN.warm hW, hE.pass hS hFc hW hU, by rw [hU]; exact hPc, va_K.moved hW.alike hK, hDc⟩⟩ rfl rfl hl.1 rfl (lv_room (Nat.le_of_ble_eq_true rfl)) dX11_lines_116 ⟨Nat.le_of_ble_eq_true rfl, Nat.le_of_ble_eq_true rfl⟩) (fun r672 u H locs hw hP hD hS => ?_)
      obtain ⟨g673, rfl⟩ : ∃ z, z = u := ⟨_, rfl⟩
      have hP : va_P D vwCl [(h, oX11 0 aw ai ab ac hi re aP ta po en be de fa a5 sp av an ak ne aW aC ag aT aN aF), (aw, kcI cI 2179 fw), (aF, kcI cI 4096 g673)] H := hP
      have hD : va_D A [(h, oX11 0 aw ai ab ac hi re aP ta po en be de fa a5 sp av an ak ne aW aC ag aT aN aF), (aw, kcI cI 2179 fw), (aF, kcI cI 4096 g673)] := hD
      have k674 := hw
      refine lv_iadd hx hb dX11_lines_119 ?_
      refine lv_topi (fun x675 ex675 => ?_)
      have hP9 := hP.sub (ws' := [(h, oX11 0 aw ai ab ac hi re aP ta po en be de fa a5 sp av an ak ne aW aC ag aT aN aF), (aw, kcI cI 2179 fw), (aF, kcI cI 4096 g673)]) [0, 1, 2] rfl
      have hD9 := hD.sub (ws' := [(h, oX11 0 aw ai ab ac hi re aP ta po en be de fa a5 sp av an ak ne aW aC ag aT aN aF), (aw, kcI cI 2179 fw), (aF, kcI cI 4096 g673)]) [0, 1, 2] (by decide) rfl
      exact W.iret (v := x675) hx hb hr (fun t ht hW => ⟨⟨x675, ((0 : Int32), g673), rfl, (hF1.trans (kIter_out (kC_eq rfl (kC_eq rfl (kLet_eq (k667).symm (kif_t (leI c668) (kC_eq k671 (kC_eq k674 (kLet_eq (ke_wadd ex675) rfl))))))))), by rw [ht]; exact hP9, va_K.moved hW.alike hK, hD9⟩, hS.F ht⟩) hS.2.2 dX11_lines_120
    · skip
      have k676 : Rg y660 0 11 := rg_l1 (nleI c668) hy660 k666 (by decide)
      have k677 : Rg r664 1 12 := rg_l2 (nleI c668) hy660 k666 (by decide)
      refine lv_aload_n hx hb dX11_lines_46 rfl (lv_at hl 3 rfl) ?_
      refine lv_iload hx hb dX11_lines_47 (lv_at hl 0 rfl) ?_
      refine lv_iconst (v := 5) hx hb dX11_lines_49 (by decide) ?_
      refine kpurei (wc := [(h, oX11 0 aw ai ab ac hi re aP ta po en be de fa a5 sp av an ak ne aW aC ag aT aN aF), (aw, kcI cI 2179 fw)]) hP hD hS hA [0, 1] rfl (by decide) (fun hPc hDc hFc => va_runV (As := [.int y660, .int 5]) (rest := []) ⟨hx, hb, hml, hown, hts⟩ (r_of5 l D cI cJ cB cC h 0 aw ai ab ac hi re aP ta po en be de fa a5 sp av an ak ne aW aC ag aT aN aF fw y660 H.size k676 H_fw_W) (cwV 2 hts gX11_lines_X11_of rfl rfl rfl ⟨rfl, hdX11_of⟩ ⟨Nat.le_of_ble_eq_true rfl, Nat.le_of_ble_eq_true rfl⟩) ⟨kBlind, va_recv hK hPc (ci := 10) (q0 := 0) rfl rfl, fun U hU hW => ⟨rfl, by rw [hU], hN.warm hW, hE.pass hS hFc hW hU, by rw [hU]; exact hPc, va_K.moved hW.alike hK, hDc⟩⟩ rfl rfl hl.1 rfl (lv_room (Nat.le_of_ble_eq_true rfl)) dX11_lines_50 ⟨Nat.le_of_ble_eq_true rfl, Nat.le_of_ble_eq_true rfl⟩) (fun r678 u H locs hw hP hS => ?_)
      obtain ⟨k679, k680, k681⟩ := hw
      refine k_join (hd := 101) (cells2 := 0) (slots2 := 0) (fun (u : Int32 × Int32) => match u with | (y707, y708) => []) (fun (u : Int32 × Int32) (H : Heap) (locs : List Loc) (ls : Array Slot) => match u with | (y707, y708) => (F_r_lines_l1_s (gT fw) (gT fF) b.toInt (y660.toInt, y661.toInt, y662.toInt) = F_r_lines_j2 y660.toInt y707.toInt y708.toInt) ∧ Rg y707 0 4095 ∧ Rg y708 0 4095 ∧ va_P D vwCl [(h, oX11 0 aw ai ab ac hi re aP ta po en be de fa a5 sp av an ak ne aW aC ag aT aN aF), (aw, kcI cI 2179 fw), (aF, kcI cI 4096 fF)] H ∧ va_D A [(h, oX11 0 aw ai ab ac hi re aP ta po en be de fa a5 sp av an ak ne aW aC ag aT aN aF), (aw, kcI cI 2179 fw), (aF, kcI cI 4096 fF)] ∧ va_S A s.heap H locs ∧ lv_has ls 5 [(4, .int y660), (3, .int y707), (2, .int y708), (0, .ref h), (1, .int b)]) (fun u H locs ls hI => ?_) (fun hJ101 => ?_)
      · skip
        clear hP hD hS hl
        obtain ⟨y707, y708⟩ := u
        obtain ⟨hF2, hy707, hy708, hP, hD, hS, hl⟩ := hI
        have hP : va_P D vwCl [(h, oX11 0 aw ai ab ac hi re aP ta po en be de fa a5 sp av an ak ne aW aC ag aT aN aF), (aw, kcI cI 2179 fw), (aF, kcI cI 4096 fF)] H := hP
        have hD : va_D A [(h, oX11 0 aw ai ab ac hi re aP ta po en be de fa a5 sp av an ak ne aW aC ag aT aN aF), (aw, kcI cI 2179 fw), (aF, kcI cI 4096 fF)] := hD
        have hl : lv_has ls 5 [(4, .int y660), (3, .int y707), (2, .int y708), (0, .ref h), (1, .int b)] := hl
        obtain ⟨x709, ex709⟩ : ∃ y : Int32, y = y660 + 1 := ⟨_, rfl⟩
        refine lv_iinc (v := x709) (lv' := [(4, .int x709), (3, .int y707), (2, .int y708), (0, .ref h), (1, .int b)]) hx hb dX11_lines_101 hl (k := 0) rfl (by rw [ex709]; rfl) (by decide) rfl (fun ls hl => ?_)
        have k710 : Rg x709 1 12 := rg_add ex709 k676 (rg_lit (n := 1) (by decide)) (by decide)
        refine lv_goto (tgt := 37) hx hb dX11_lines_104 (by decide) ?_
        exact ih663 (x709, y707, y708) _ _ _ (by show (12 - (x709).toInt).toNat < (12 - (y660).toInt).toNat; exact mu_up ex709 k676 k710 (by decide)) ⟨(hF1.trans (kIter_go (hF2.trans (kLet_eq (ti_add ex709 k676 (rg_lit (n := 1) (by decide)) (by decide) rfl rfl) rfl)))), (rg_w k710 (by decide)), hy707, hy708, hP.sub (ws' := [(h, oX11 0 aw ai ab ac hi re aP ta po en be de fa a5 sp av an ak ne aW aC ag aT aN aF), (aw, kcI cI 2179 fw), (aF, kcI cI 4096 fF)]) [0, 1, 2] rfl, hD.sub (ws' := [(h, oX11 0 aw ai ab ac hi re aP ta po en be de fa a5 sp av an ak ne aW aC ag aT aN aF), (aw, kcI cI 2179 fw), (aF, kcI cI 4096 fF)]) [0, 1, 2] (by decide) rfl, hS, lv_sub (l' := [(4, .int x709), (3, .int y707), (2, .int y708), (0, .ref h), (1, .int b)]) hl [0, 1, 2, 3, 4] rfl⟩
      refine lv_if_lt (tgt := 59) hx hb dX11_lines_53 (by decide) (fun c711 => ?_) (fun c711 => ?_)
      · skip
        have k712 : Rg r678 (-1) (-1) := rg_l1 (ltI c711) k680 (rg_lit (n := 0) (by decide)) (by decide)
        refine lv_iconst (v := 1) hx hb dX11_lines_59 (by decide) ?_
        refine lv_aload_n hx hb dX11_lines_60 rfl (lv_at hl 3 rfl) ?_
        refine lv_iload hx hb dX11_lines_61 (lv_at hl 0 rfl) ?_
        refine lv_iconst (v := 3) hx hb dX11_lines_63 (by decide) ?_
        refine kpurei (wc := [(h, oX11 0 aw ai ab ac hi re aP ta po en be de fa a5 sp av an ak ne aW aC ag aT aN aF), (aw, kcI cI 2179 fw)]) hP hD hS hA [0, 1] rfl (by decide) (fun hPc hDc hFc => va_runV (As := [.int y660, .int 3]) (rest := [.int 1]) ⟨hx, hb, hml, hown, hts⟩ (r_of3 l D cI cJ cB cC h 0 aw ai ab ac hi re aP ta po en be de fa a5 sp av an ak ne aW aC ag aT aN aF fw y660 H.size k676 H_fw_W) (cwV 2 hts gX11_lines_X11_of rfl rfl rfl ⟨rfl, hdX11_of⟩ ⟨Nat.le_of_ble_eq_true rfl, Nat.le_of_ble_eq_true rfl⟩) ⟨kBlind, va_recv hK hPc (ci := 10) (q0 := 0) rfl rfl, fun U hU hW => ⟨rfl, by rw [hU], hN.warm hW, hE.pass hS hFc hW hU, by rw [hU]; exact hPc, va_K.moved hW.alike hK, hDc⟩⟩ rfl rfl hl.1 rfl (lv_room (Nat.le_of_ble_eq_true rfl)) dX11_lines_64 ⟨Nat.le_of_ble_eq_true rfl, Nat.le_of_ble_eq_true rfl⟩) (fun r713 u H locs hw hP hS => ?_)
        obtain ⟨k714, k715⟩ := hw
        refine lv_iadd hx hb dX11_lines_67 ?_
        refine lv_topi (fun x716 ex716 => ?_)
        refine lv_iload_n hx hb dX11_lines_68 rfl (lv_at hl 4 rfl) ?_
        refine lv_icmp_le (tgt := 74) hx hb dX11_lines_69 (by decide) (fun c717 => ?_) (fun c717 => ?_)
        · skip
          have k718 : Rg x716 (-2147483648) 99 := rg_e1 (leI c717) (rg_any x716) kc3_0 (by decide)
          refine lv_aload_n hx hb dX11_lines_74 rfl (lv_at hl 3 rfl) ?_
          refine lv_iload hx hb dX11_lines_75 (lv_at hl 0 rfl) ?_
          refine lv_iconst (v := 0) hx hb dX11_lines_77 (by decide) ?_
          refine kpurei (wc := [(h, oX11 0 aw ai ab ac hi re aP ta po en be de fa a5 sp av an ak ne aW aC ag aT aN aF), (aw, kcI cI 2179 fw)]) hP hD hS hA [0, 1] rfl (by decide) (fun hPc hDc hFc => va_runV (As := [.int y660, .int 0]) (rest := []) ⟨hx, hb, hml, hown, hts⟩ (r_of0 l D cI cJ cB cC h 0 aw ai ab ac hi re aP ta po en be de fa a5 sp av an ak ne aW aC ag aT aN aF fw y660 H.size k676 H_fw_W) (cwV 2 hts gX11_lines_X11_of rfl rfl rfl ⟨rfl, hdX11_of⟩ ⟨Nat.le_of_ble_eq_true rfl, Nat.le_of_ble_eq_true rfl⟩) ⟨kBlind, va_recv hK hPc (ci := 10) (q0 := 0) rfl rfl, fun U hU hW => ⟨rfl, by rw [hU], hN.warm hW, hE.pass hS hFc hW hU, by rw [hU]; exact hPc, va_K.moved hW.alike hK, hDc⟩⟩ rfl rfl hl.1 rfl (lv_room (Nat.le_of_ble_eq_true rfl)) dX11_lines_78 ⟨Nat.le_of_ble_eq_true rfl, Nat.le_of_ble_eq_true rfl⟩) (fun r719 u H locs hw hP hS => ?_)
          obtain ⟨k720, k721⟩ := hw
          refine lv_if_ne (tgt := 94) hx hb dX11_lines_81 (by decide) (fun c722 => ?_) (fun c722 => ?_)
          · skip
            refine lv_iload_n hx hb dX11_lines_94 rfl (lv_at hl 1 rfl) ?_
            refine lv_iconst (v := 1) hx hb dX11_lines_95 (by decide) ?_
            refine lv_iload hx hb dX11_lines_96 (lv_at hl 0 rfl) ?_
            refine lv_ishl hx hb dX11_lines_98 ?_
            refine lv_topi (fun x723 ex723 => ?_)
            have k724 : Rg x723 1 2048 := rg_shl1 11 ex723 k676 (by decide)
            refine lv_ior hx hb dX11_lines_99 ?_
            refine lv_topi (fun x725 ex725 => ?_)
            have k726 : Rg x725 0 4095 := rg_or 12 ex725 hy661 k724 (by decide)
            refine lv_istore_n (lv' := [(3, .int x725), (4, .int y660), (2, .int y662), (0, .ref h), (1, .int b)]) hx hb dX11_lines_100 rfl hl (by decide) rfl (fun ls hl => ?_)
            exact hJ101 (x725, y662) _ _ _ ⟨(kC_eq rfl (kC_eq rfl (kLet_eq (k667).symm (kif_f (xF_le c668) (kLet_eq (k681).symm (kif_t (ltI c711) (kLet_eq (k715).symm (kLet_eq (ke_wadd ex716) (kif_t (leI c717) (kLet_eq (k721).symm (kif_f (neI c722) (kLet_eq (ke_shl ex723) (kLet_eq (ke_or ex725) rfl))))))))))))), k726, hy662, hP.sub (ws' := [(h, oX11 0 aw ai ab ac hi re aP ta po en be de fa a5 sp av an ak ne aW aC ag aT aN aF), (aw, kcI cI 2179 fw), (aF, kcI cI 4096 fF)]) [0, 1, 2] rfl, hD.sub (ws' := [(h, oX11 0 aw ai ab ac hi re aP ta po en be de fa a5 sp av an ak ne aW aC ag aT aN aF), (aw, kcI cI 2179 fw), (aF, kcI cI 4096 fF)]) [0, 1, 2] (by decide) rfl, hS, lv_sub (l' := [(4, .int y660), (3, .int x725), (2, .int y662), (0, .ref h), (1, .int b)]) hl [1, 0, 2, 3, 4] rfl⟩
          · skip
            have k727 : Rg r719 0 0 := rg_q1 (eqI c722) (rg_any r719) (rg_lit (n := 0) (by decide)) (by decide)
            refine lv_iload_n hx hb dX11_lines_84 rfl (lv_at hl 2 rfl) ?_
            refine lv_iconst (v := 1) hx hb dX11_lines_85 (by decide) ?_
            refine lv_iload hx hb dX11_lines_86 (lv_at hl 0 rfl) ?_
            refine lv_ishl hx hb dX11_lines_88 ?_
            refine lv_topi (fun x728 ex728 => ?_)
            have k729 : Rg x728 1 2048 := rg_shl1 11 ex728 k676 (by decide)
            refine lv_ior hx hb dX11_lines_89 ?_
            refine lv_topi (fun x730 ex730 => ?_)
            have k731 : Rg x730 0 4095 := rg_or 12 ex730 hy662 k729 (by decide)
            refine lv_istore_n (lv' := [(2, .int x730), (4, .int y660), (3, .int y661), (0, .ref h), (1, .int b)]) hx hb dX11_lines_90 rfl hl (by decide) rfl (fun ls hl => ?_)
            refine lv_goto (tgt := 101) hx hb dX11_lines_91 (by decide) ?_
            exact hJ101 (y661, x730) _ _ _ ⟨(kC_eq rfl (kC_eq rfl (kLet_eq (k667).symm (kif_f (xF_le c668) (kLet_eq (k681).symm (kif_t (ltI c711) (kLet_eq (k715).symm (kLet_eq (ke_wadd ex716) (kif_t (leI c717) (kLet_eq (k721).symm (kif_t (eqI c722) (kLet_eq (ke_shl ex728) (kLet_eq (ke_or ex730) rfl))))))))))))), hy661, k731, hP.sub (ws' := [(h, oX11 0 aw ai ab ac hi re aP ta po en be de fa a5 sp av an ak ne aW aC ag aT aN aF), (aw, kcI cI 2179 fw), (aF, kcI cI 4096 fF)]) [0, 1, 2] rfl, hD.sub (ws' := [(h, oX11 0 aw ai ab ac hi re aP ta po en be de fa a5 sp av an ak ne aW aC ag aT aN aF), (aw, kcI cI 2179 fw), (aF, kcI cI 4096 fF)]) [0, 1, 2] (by decide) rfl, hS, lv_sub (l' := [(4, .int y660), (3, .int y661), (2, .int x730), (0, .ref h), (1, .int b)]) hl [1, 2, 0, 3, 4] rfl⟩
        · skip
          have k732 : Rg x716 2 2147483647 := rg_l2 (nleI c717) kc3_0 (rg_any x716) (by decide)
          refine lv_iconst (v := (-1)) hx hb dX11_lines_72 (by decide) ?_
          have hP9 := hP.sub (ws' := [(h, oX11 0 aw ai ab ac hi re aP ta po en be de fa a5 sp av an ak ne aW aC ag aT aN aF), (aw, kcI cI 2179 fw), (aF, kcI cI 4096 fF)]) [0, 1, 2] rfl
          have hD9 := hD.sub (ws' := [(h, oX11 0 aw ai ab ac hi re aP ta po en be de fa a5 sp av an ak ne aW aC ag aT aN aF), (aw, kcI cI 2179 fw), (aF, kcI cI 4096 fF)]) [0, 1, 2] (by decide) rfl
          exact W.iret (v := (-1)) hx hb hr (fun t ht hW => ⟨⟨(-1), ((0 : Int32), fF), rfl, (hF1.trans (kIter_out (kC_eq rfl (kC_eq rfl (kLet_eq (k667).symm (kif_f (xF_le c668) (kLet_eq (k681).symm (kif_t (ltI c711) (kLet_eq (k715).symm (kLet_eq (ke_wadd ex716) (kif_f (xF_le c717) rfl))))))))))), by rw [ht]; exact hP9, va_K.moved hW.alike hK, hD9⟩, hS.F ht⟩) hS.2.2 dX11_lines_73
      · skip
        have k733 : Rg r678 0 9 := rg_e2 (nltI c711) (rg_lit (n := 0) (by decide)) k680 (by decide)
        refine lv_goto (tgt := 101) hx hb dX11_lines_56 (by decide) ?_
        exact hJ101 (y661, y662) _ _ _ ⟨(kC_eq rfl (kC_eq rfl (kLet_eq (k667).symm (kif_f (xF_le c668) (kLet_eq (k681).symm (kif_f (xF_lt c711) rfl)))))), hy661, hy662, hP.sub (ws' := [(h, oX11 0 aw ai ab ac hi re aP ta po en be de fa a5 sp av an ak ne aW aC ag aT aN aF), (aw, kcI cI 2179 fw), (aF, kcI cI 4096 fF)]) [0, 1, 2] rfl, hD.sub (ws' := [(h, oX11 0 aw ai ab ac hi re aP ta po en be de fa a5 sp av an ak ne aW aC ag aT aN aF), (aw, kcI cI 2179 fw), (aF, kcI cI 4096 fF)]) [0, 1, 2] (by decide) rfl, hS, lv_sub (l' := [(4, .int y660), (3, .int y661), (2, .int y662), (0, .ref h), (1, .int b)]) hl [0, 1, 2, 3, 4] rfl⟩

def kwX11_blue : List Cond := .code yX11_blue cX11_blue 7 (some .int) :: kG
theorem hdX11_blue : yX11_blue.cls ≠ "java/lang/invoke/MethodHandle" ∧ yX11_blue.cls ≠ "java/lang/invoke/VarHandle" ∧ (parseMethodDescriptor yX11_blue.desc).map (fun d => d.parameters.length) = some 3 := by decide +kernel
theorem gX11_blue_X11_in : GoodIn kG (va_wsS RX11 75 yX11_in kwX11_in) := gK w27_8 (gK w27_9 (gK w0_5 (gK w27_10 gGG)))
theorem gX11_blue_X11_throwsIf : GoodIn kG (wsV RX11 258 RX11 yX11_throwsIf kwX11_throwsIf) := gK w23_6 (gK w23_7 (gK w23_8 (gK w0_5 (gK w23_9 gGG))))
theorem dX11_blue_0 : decode cX11_blue 0 = .ok (.aload_n 0, 1) := by decide +kernel
theorem dX11_blue_1 : decode cX11_blue 1 = .ok (.iconst 0, 1) := by decide +kernel
theorem dX11_blue_2 : decode cX11_blue 2 = .ok (.putfield 3, 3) := by decide +kernel
theorem dX11_blue_5 : decode cX11_blue 5 = .ok (.aload_n 0, 1) := by decide +kernel
theorem dX11_blue_6 : decode cX11_blue 6 = .ok (.iload_n 1, 1) := by decide +kernel
theorem dX11_blue_7 : decode cX11_blue 7 = .ok (.iconst (-1), 1) := by decide +kernel
theorem dX11_blue_8 : decode cX11_blue 8 = .ok (.iconst 2, 1) := by decide +kernel
theorem dX11_blue_9 : decode cX11_blue 9 = .ok (.invokestatic 75, 3) := by decide +kernel
theorem dX11_blue_12 : decode cX11_blue 12 = .ok (.ifCond .eq 22, 3) := by decide +kernel
theorem dX11_blue_15 : decode cX11_blue 15 = .ok (.iload_n 2, 1) := by decide +kernel
theorem dX11_blue_16 : decode cX11_blue 16 = .ok (.iconst (-1), 1) := by decide +kernel
theorem dX11_blue_17 : decode cX11_blue 17 = .ok (.iconst 2, 1) := by decide +kernel
theorem dX11_blue_18 : decode cX11_blue 18 = .ok (.invokestatic 75, 3) := by decide +kernel
theorem dX11_blue_21 : decode cX11_blue 21 = .ok (.ifCond .eq 13, 3) := by decide +kernel
theorem dX11_blue_24 : decode cX11_blue 24 = .ok (.iload_n 3, 1) := by decide +kernel
theorem dX11_blue_25 : decode cX11_blue 25 = .ok (.iconst 1, 1) := by decide +kernel
theorem dX11_blue_26 : decode cX11_blue 26 = .ok (.bipush 9, 2) := by decide +kernel
theorem dX11_blue_28 : decode cX11_blue 28 = .ok (.invokestatic 75, 3) := by decide +kernel
theorem dX11_blue_31 : decode cX11_blue 31 = .ok (.ifCond .ne 7, 3) := by decide +kernel
theorem dX11_blue_34 : decode cX11_blue 34 = .ok (.iconst 1, 1) := by decide +kernel
theorem dX11_blue_35 : decode cX11_blue 35 = .ok (.goto 4, 3) := by decide +kernel
theorem dX11_blue_38 : decode cX11_blue 38 = .ok (.iconst 0, 1) := by decide +kernel
theorem dX11_blue_39 : decode cX11_blue 39 = .ok (.iconst 1, 1) := by decide +kernel
theorem dX11_blue_40 : decode cX11_blue 40 = .ok (.invokevirtual 258, 3) := by decide +kernel
theorem dX11_blue_43 : decode cX11_blue 43 = .ok (.ifCond .eq 5, 3) := by decide +kernel
theorem dX11_blue_46 : decode cX11_blue 46 = .ok (.iconst 0, 1) := by decide +kernel
theorem dX11_blue_47 : decode cX11_blue 47 = .ok (.ireturn, 1) := by decide +kernel
theorem dX11_blue_48 : decode cX11_blue 48 = .ok (.ldc2_w 356, 3) := by decide +kernel
theorem dX11_blue_51 : decode cX11_blue 51 = .ok (.lstore 4, 2) := by decide +kernel
theorem dX11_blue_53 : decode cX11_blue 53 = .ok (.iconst 0, 1) := by decide +kernel
theorem dX11_blue_54 : decode cX11_blue 54 = .ok (.istore 6, 2) := by decide +kernel
theorem dX11_blue_56 : decode cX11_blue 56 = .ok (.iload 6, 2) := by decide +kernel
theorem dX11_blue_58 : decode cX11_blue 58 = .ok (.iload_n 3, 1) := by decide +kernel
theorem dX11_blue_59 : decode cX11_blue 59 = .ok (.if_icmp .ge 67, 3) := by decide +kernel
theorem dX11_blue_62 : decode cX11_blue 62 = .ok (.iload_n 1, 1) := by decide +kernel
theorem dX11_blue_63 : decode cX11_blue 63 = .ok (.ifCond .le 24, 3) := by decide +kernel
theorem dX11_blue_66 : decode cX11_blue 66 = .ok (.lload 4, 2) := by decide +kernel
theorem dX11_blue_68 : decode cX11_blue 68 = .ok (.bipush 100, 2) := by decide +kernel
theorem dX11_blue_70 : decode cX11_blue 70 = .ok (.aload_n 0, 1) := by decide +kernel
theorem dX11_blue_71 : decode cX11_blue 71 = .ok (.getfield 13, 3) := by decide +kernel
theorem dX11_blue_74 : decode cX11_blue 74 = .ok (.bipush 8, 2) := by decide +kernel
theorem dX11_blue_76 : decode cX11_blue 76 = .ok (.iaload, 1) := by decide +kernel
theorem dX11_blue_77 : decode cX11_blue 77 = .ok (.isub, 1) := by decide +kernel
theorem dX11_blue_78 : decode cX11_blue 78 = .ok (.i2l, 1) := by decide +kernel
theorem dX11_blue_79 : decode cX11_blue 79 = .ok (.lmul, 1) := by decide +kernel
theorem dX11_blue_80 : decode cX11_blue 80 = .ok (.ldc2_w 358, 3) := by decide +kernel
theorem dX11_blue_83 : decode cX11_blue 83 = .ok (.ldiv, 1) := by decide +kernel
theorem dX11_blue_84 : decode cX11_blue 84 = .ok (.goto 5, 3) := by decide +kernel
theorem dX11_blue_87 : decode cX11_blue 87 = .ok (.lload 4, 2) := by decide +kernel
theorem dX11_blue_89 : decode cX11_blue 89 = .ok (.lstore 4, 2) := by decide +kernel
theorem dX11_blue_91 : decode cX11_blue 91 = .ok (.iload_n 2, 1) := by decide +kernel
theorem dX11_blue_92 : decode cX11_blue 92 = .ok (.ifCond .le 24, 3) := by decide +kernel
theorem dX11_blue_95 : decode cX11_blue 95 = .ok (.lload 4, 2) := by decide +kernel
theorem dX11_blue_97 : decode cX11_blue 97 = .ok (.bipush 100, 2) := by decide +kernel
theorem dX11_blue_99 : decode cX11_blue 99 = .ok (.aload_n 0, 1) := by decide +kernel
theorem dX11_blue_100 : decode cX11_blue 100 = .ok (.getfield 13, 3) := by decide +kernel
theorem dX11_blue_103 : decode cX11_blue 103 = .ok (.bipush 8, 2) := by decide +kernel
theorem dX11_blue_105 : decode cX11_blue 105 = .ok (.iaload, 1) := by decide +kernel
theorem dX11_blue_106 : decode cX11_blue 106 = .ok (.isub, 1) := by decide +kernel
theorem dX11_blue_107 : decode cX11_blue 107 = .ok (.i2l, 1) := by decide +kernel
theorem dX11_blue_108 : decode cX11_blue 108 = .ok (.lmul, 1) := by decide +kernel
theorem dX11_blue_109 : decode cX11_blue 109 = .ok (.ldc2_w 358, 3) := by decide +kernel
theorem dX11_blue_112 : decode cX11_blue 112 = .ok (.ldiv, 1) := by decide +kernel
theorem dX11_blue_113 : decode cX11_blue 113 = .ok (.goto 5, 3) := by decide +kernel
theorem dX11_blue_116 : decode cX11_blue 116 = .ok (.lload 4, 2) := by decide +kernel
theorem dX11_blue_118 : decode cX11_blue 118 = .ok (.lstore 4, 2) := by decide +kernel
theorem dX11_blue_120 : decode cX11_blue 120 = .ok (.iinc 6 1, 3) := by decide +kernel
theorem dX11_blue_123 : decode cX11_blue 123 = .ok (.goto (-67), 3) := by decide +kernel
theorem dX11_blue_126 : decode cX11_blue 126 = .ok (.lload 4, 2) := by decide +kernel
theorem dX11_blue_128 : decode cX11_blue 128 = .ok (.l2i, 1) := by decide +kernel
theorem dX11_blue_129 : decode cX11_blue 129 = .ok (.ireturn, 1) := by decide +kernel
set_option maxHeartbeats 4000000 in
set_option maxRecDepth 100000 in
/-- reference: blue -/
theorem r_blue (l : Launch) (D : va_G) (cI cJ cB cC : ClassId) (h : Nat) (th : Int32) (aw : Nat) (ai : Nat) (ab : Nat) (ac : Nat) (hi : Int32) (re : Int32) (aP : Nat) (ta : Int32) (po : Int32) (en : Int32) (be : Int32) (de : Int32) (fa : Int32) (a5 : Nat) (sp : Int32) (av : Nat) (an : Nat) (ak : Nat) (ne : Int32) (aW : Nat) (aC : Nat) (ag : Nat) (aT : Nat) (aN : Nat) (aF : Nat) (fw : Nat → Int32) (mm : Int32) (b : Int32) (n : Int32) (sz : Nat) (H_fw_W : wW fw) : Met l yX11_blue kwX11_blue ({ frames := 1, cells := 0, slots := 0, locals := 22 } : Room) (kPre D (kT cI cJ cB cC) sz [(h, oX11 th aw ai ab ac hi re aP ta po en be de fa a5 sp av an ak ne aW aC ag aT aN aF), (aw, kcI cI 2179 fw)] [.ref h, .int mm, .int b, .int n]) (va_Qi (fun (r : Int32) (n0_ : Int32) => F_r_blue (gT fw) (mm : Int32).toInt (b : Int32).toInt (n : Int32).toInt = ((r : Int32).toInt, (n0_ : Int32).toInt)) (fun (n0_ : Int32) (t : State) => kB D (kT cI cJ cB cC) (va_A [(h, oX11 th aw ai ab ac hi re aP ta po en be de fa a5 sp av an ak ne aW aC ag aT aN aF), (aw, kcI cI 2179 fw)] sz) [(h, oX11 n0_ aw ai ab ac hi re aP ta po en be de fa a5 sp av an ak ne aW aC ag aT aN aF), (aw, kcI cI 2179 fw)] t) (va_A [(h, oX11 th aw ai ab ac hi re aP ta po en be de fa a5 sp av an ak ne aW aC ag aT aN aF), (aw, kcI cI 2179 fw)] sz)) 0 0 (va_A [(h, oX11 th aw ai ab ac hi re aP ta po en be de fa a5 sp av an ak ne aW aC ag aT aN aF), (aw, kcI cI 2179 fw)] sz) := by
  refine Met.ofW (cc := cX11_blue) (maxL := 7) (ret := (some .int)) (by decide) rfl ?_
  intro p e s m args below meth c s₁ B hml hv
  obtain ⟨rfl, hsz, hN, hE, hP, hK, hD0⟩ := hv
  have hx := B.exec
  have hb := B.bytes
  have hr := B.returns
  have hts := fun (w : Cond) (h : w ∈ kG) => atoms_spec (ws := kwX11_blue) B.pre w (List.mem_cons_of_mem _ h)
  have hown : s.vm.findClass RX11 = some m.cls := findClass_of_methodNamed B.named
  subst hsz
  have hD := hD0.self (sz := s.heap.size)
  generalize hAe : va_A [(h, oX11 th aw ai ab ac hi re aP ta po en be de fa a5 sp av an ak ne aW aC ag aT aN aF), (aw, kcI cI 2179 fw)] s.heap.size = A at hD hE ⊢
  have hA : ∀ q : Nat, s.heap.size ≤ q → A q := fun q h => by rw [← hAe]; exact Or.inr h
  have hl := lv_entry ([.ref h, .int mm, .int b, .int n]) (n := 7) (Nat.le_of_ble_eq_true rfl)
  rw [lg_entry_eq]
  generalize (lg_sl ([.ref h, .int mm, .int b, .int n]) ++ List.replicate (7 - (lg_sl ([.ref h, .int mm, .int b, .int n])).length) Slot.unset).toArray = ls at hl ⊢
  have hl : lv_has ls 7 [(0, .ref h), (1, .int mm), (2, .int b), (3, .int n)] := hl
  obtain ⟨H, hH0⟩ : ∃ H, H = s.heap := ⟨_, rfl⟩
  have hS : va_S A s.heap H [] := by rw [hH0]; exact va_S.rf
  have hP : va_P D vwCl [(h, oX11 th aw ai ab ac hi re aP ta po en be de fa a5 sp av an ak ne aW aC ag aT aN aF), (aw, kcI cI 2179 fw)] H := by rw [hH0]; exact hP
  refine kHeap hH0 ?_
  clear hH0
  refine lv_aload_n hx hb dX11_blue_0 rfl (lv_at hl 0 rfl) ?_
  refine lv_iconst (v := 0) hx hb dX11_blue_1 (by decide) ?_
  refine va_put (D := D) (ci := 10) (v := .int 0) (ty := .int) (C := RX11) (T := TX11) (N := 26) hx hb hts iG_X11 tyX11 tyX11_ok nmX11 hown hK hP hD hS 0 rfl rfl 0 (by decide) (hts _ w6_8) (fun _ h9 => h9) rfl (by decide +kernel) rfl rfl (Nat.le_of_ble_eq_true rfl) dX11_blue_2 (fun H locs hP hD hS => ?_)
  have hP : va_P D vwCl [(h, oX11 0 aw ai ab ac hi re aP ta po en be de fa a5 sp av an ak ne aW aC ag aT aN aF), (aw, kcI cI 2179 fw)] H := hP
  have hD : va_D A [(h, oX11 0 aw ai ab ac hi re aP ta po en be de fa a5 sp av an ak ne aW aC ag aT aN aF), (aw, kcI cI 2179 fw)] := hD
  refine lv_aload_n hx hb dX11_blue_5 rfl (lv_at hl 0 rfl) ?_
  refine lv_iload_n hx hb dX11_blue_6 rfl (lv_at hl 1 rfl) ?_
  refine lv_iconst (v := (-1)) hx hb dX11_blue_7 (by decide) ?_
  refine lv_iconst (v := 2) hx hb dX11_blue_8 (by decide) ?_
  refine kpurei (wc := []) hP hD hS hA [] rfl (by decide) (fun hPc hDc hFc => va_runS (As := [.int mm, .int (-1), .int 2]) (rest := [.ref h]) ⟨hx, hb, hml, hown, hts⟩ (r_in_m1_2 l D cI cJ cB cC mm H.size) (va_cwS 3 hts gX11_blue_X11_in rfl rfl rfl hdX11_in ⟨Nat.le_of_ble_eq_true rfl, Nat.le_of_ble_eq_true rfl⟩) ⟨kBlind, fun U hU hW => ⟨rfl, by rw [hU], hN.warm hW, hE.pass hS hFc hW hU, by rw [hU]; exact hPc, va_K.moved hW.alike hK, hDc⟩⟩ rfl rfl hl.1 rfl (lv_room (Nat.le_of_ble_eq_true rfl)) dX11_blue_9 ⟨Nat.le_of_ble_eq_true rfl, Nat.le_of_ble_eq_true rfl⟩) (fun r1 u H locs hw hP hS => ?_)
  obtain ⟨k2, hw⟩ := hw
  rcases hw with rfl | ⟨rfl, kc3_0⟩
  · skip
    refine lv_if_eq (tgt := 34) hx hb dX11_blue_12 (by decide) (fun _ => ?_) (fun c5 => absurd (by decide) c5)
    refine lv_iconst (v := 1) hx hb dX11_blue_34 (by decide) ?_
    refine lv_goto (tgt := 39) hx hb dX11_blue_35 (by decide) ?_
    refine lv_iconst (v := 1) hx hb dX11_blue_39 (by decide) ?_
    refine kcalli (wc := [(h, oX11 0 aw ai ab ac hi re aP ta po en be de fa a5 sp av an ak ne aW aC ag aT aN aF)]) (wr := [(aw, kcI cI 2179 fw)]) hP hD hS hA [0] [1] rfl rfl (by decide) (by decide) (by decide) (fun hPc hDc hFc => va_runV (As := [.int 1, .int 1]) (rest := []) ⟨hx, hb, hml, hown, hts⟩ (r_throwsIf1_1 l D cI cJ cB cC h 0 aw ai ab ac hi re aP ta po en be de fa a5 sp av an ak ne aW aC ag aT aN aF 1 H.size) (cwV 2 hts gX11_blue_X11_throwsIf rfl rfl rfl ⟨rfl, hdX11_throwsIf⟩ ⟨Nat.le_of_ble_eq_true rfl, Nat.le_of_ble_eq_true rfl⟩) ⟨kBlind, va_recv hK hPc (ci := 10) (q0 := 0) rfl rfl, fun U hU hW => ⟨rfl, by rw [hU], hN.warm hW, hE.pass hS hFc hW hU, by rw [hU]; exact hPc, va_K.moved hW.alike hK, hDc⟩⟩ rfl rfl hl.1 rfl (lv_room (Nat.le_of_ble_eq_true rfl)) dX11_blue_40 ⟨Nat.le_of_ble_eq_true rfl, Nat.le_of_ble_eq_true rfl⟩) (fun r6 u H locs hw hP hD hS => ?_)
    obtain ⟨x7, rfl⟩ : ∃ z, z = u := ⟨_, rfl⟩
    have hP : va_P D vwCl [(aw, kcI cI 2179 fw), (h, oX11 x7 aw ai ab ac hi re aP ta po en be de fa a5 sp av an ak ne aW aC ag aT aN aF)] H := hP
    have hD : va_D A [(aw, kcI cI 2179 fw), (h, oX11 x7 aw ai ab ac hi re aP ta po en be de fa a5 sp av an ak ne aW aC ag aT aN aF)] := hD
    obtain ⟨k8, k9⟩ := hw
    refine lv_if_eq (tgt := 48) hx hb dX11_blue_43 (by decide) (fun c10 => absurd c10 (rg_neq k8 (rg_lit (n := 0) (by decide)) (by decide))) (fun _ => ?_)
    refine lv_iconst (v := 0) hx hb dX11_blue_46 (by decide) ?_
    have hP9 := hP.sub (ws' := [(h, oX11 x7 aw ai ab ac hi re aP ta po en be de fa a5 sp av an ak ne aW aC ag aT aN aF), (aw, kcI cI 2179 fw)]) [1, 0] rfl
    have hD9 := hD.sub (ws' := [(h, oX11 x7 aw ai ab ac hi re aP ta po en be de fa a5 sp av an ak ne aW aC ag aT aN aF), (aw, kcI cI 2179 fw)]) [1, 0] (by decide) rfl
    exact W.iret (v := 0) hx hb hr (fun t ht hW => ⟨⟨0, (x7), rfl, (kLet_eq (k2).symm (kif_t rfl (kC_eq k9 rfl))), by rw [ht]; exact hP9, va_K.moved hW.alike hK, hD9⟩, hS.F ht⟩) hS.2.2 dX11_blue_47
  · skip
    refine k_join (hd := 34) (cells2 := 0) (slots2 := 0) (fun (_ : Unit) => [.ref h]) (fun (_ : Unit) (H : Heap) (locs : List Loc) (ls : Array Slot) => (F_r_blue (gT fw) mm.toInt b.toInt n.toInt = F_r_blue_j1) ∧ va_P D vwCl [(h, oX11 0 aw ai ab ac hi re aP ta po en be de fa a5 sp av an ak ne aW aC ag aT aN aF), (aw, kcI cI 2179 fw)] H ∧ va_D A [(h, oX11 0 aw ai ab ac hi re aP ta po en be de fa a5 sp av an ak ne aW aC ag aT aN aF), (aw, kcI cI 2179 fw)] ∧ va_S A s.heap H locs ∧ lv_has ls 7 [(0, .ref h), (1, .int mm), (2, .int b), (3, .int n)]) (fun u H locs ls hI => ?_) (fun hJ34 => ?_)
    · skip
      clear hP hD hS hl
      obtain ⟨hF1, hP, hD, hS, hl⟩ := hI
      have hP : va_P D vwCl [(h, oX11 0 aw ai ab ac hi re aP ta po en be de fa a5 sp av an ak ne aW aC ag aT aN aF), (aw, kcI cI 2179 fw)] H := hP
      have hD : va_D A [(h, oX11 0 aw ai ab ac hi re aP ta po en be de fa a5 sp av an ak ne aW aC ag aT aN aF), (aw, kcI cI 2179 fw)] := hD
      have hl : lv_has ls 7 [(0, .ref h), (1, .int mm), (2, .int b), (3, .int n)] := hl
      show W _ _ _ _ _ _ _ _ _ _ _ _ _ _ _ (F0 m 34 ls [.ref h])
      refine lv_iconst (v := 1) hx hb dX11_blue_34 (by decide) ?_
      refine lv_goto (tgt := 39) hx hb dX11_blue_35 (by decide) ?_
      refine lv_iconst (v := 1) hx hb dX11_blue_39 (by decide) ?_
      refine kcalli (wc := [(h, oX11 0 aw ai ab ac hi re aP ta po en be de fa a5 sp av an ak ne aW aC ag aT aN aF)]) (wr := [(aw, kcI cI 2179 fw)]) hP hD hS hA [0] [1] rfl rfl (by decide) (by decide) (by decide) (fun hPc hDc hFc => va_runV (As := [.int 1, .int 1]) (rest := []) ⟨hx, hb, hml, hown, hts⟩ (r_throwsIf1_1 l D cI cJ cB cC h 0 aw ai ab ac hi re aP ta po en be de fa a5 sp av an ak ne aW aC ag aT aN aF 1 H.size) (cwV 2 hts gX11_blue_X11_throwsIf rfl rfl rfl ⟨rfl, hdX11_throwsIf⟩ ⟨Nat.le_of_ble_eq_true rfl, Nat.le_of_ble_eq_true rfl⟩) ⟨kBlind, va_recv hK hPc (ci := 10) (q0 := 0) rfl rfl, fun U hU hW => ⟨rfl, by rw [hU], hN.warm hW, hE.pass hS hFc hW hU, by rw [hU]; exact hPc, va_K.moved hW.alike hK, hDc⟩⟩ rfl rfl hl.1 rfl (lv_room (Nat.le_of_ble_eq_true rfl)) dX11_blue_40 ⟨Nat.le_of_ble_eq_true rfl, Nat.le_of_ble_eq_true rfl⟩) (fun r22 u H locs hw hP hD hS => ?_)
      obtain ⟨x23, rfl⟩ : ∃ z, z = u := ⟨_, rfl⟩
      have hP : va_P D vwCl [(aw, kcI cI 2179 fw), (h, oX11 x23 aw ai ab ac hi re aP ta po en be de fa a5 sp av an ak ne aW aC ag aT aN aF)] H := hP
      have hD : va_D A [(aw, kcI cI 2179 fw), (h, oX11 x23 aw ai ab ac hi re aP ta po en be de fa a5 sp av an ak ne aW aC ag aT aN aF)] := hD
      obtain ⟨k24, k25⟩ := hw
      refine lv_if_eq (tgt := 48) hx hb dX11_blue_43 (by decide) (fun c26 => absurd c26 (rg_neq k24 (rg_lit (n := 0) (by decide)) (by decide))) (fun _ => ?_)
      refine lv_iconst (v := 0) hx hb dX11_blue_46 (by decide) ?_
      have hP9 := hP.sub (ws' := [(h, oX11 x23 aw ai ab ac hi re aP ta po en be de fa a5 sp av an ak ne aW aC ag aT aN aF), (aw, kcI cI 2179 fw)]) [1, 0] rfl
      have hD9 := hD.sub (ws' := [(h, oX11 x23 aw ai ab ac hi re aP ta po en be de fa a5 sp av an ak ne aW aC ag aT aN aF), (aw, kcI cI 2179 fw)]) [1, 0] (by decide) rfl
      exact W.iret (v := 0) hx hb hr (fun t ht hW => ⟨⟨0, (x23), rfl, (hF1.trans (kC_eq k25 rfl)), by rw [ht]; exact hP9, va_K.moved hW.alike hK, hD9⟩, hS.F ht⟩) hS.2.2 dX11_blue_47
    refine lv_if_eq (tgt := 34) hx hb dX11_blue_12 (by decide) (fun c27 => absurd c27 (by decide)) (fun _ => ?_)
    refine lv_iload_n hx hb dX11_blue_15 rfl (lv_at hl 2 rfl) ?_
    refine lv_iconst (v := (-1)) hx hb dX11_blue_16 (by decide) ?_
    refine lv_iconst (v := 2) hx hb dX11_blue_17 (by decide) ?_
    refine kpurei (wc := []) hP hD hS hA [] rfl (by decide) (fun hPc hDc hFc => va_runS (As := [.int b, .int (-1), .int 2]) (rest := [.ref h]) ⟨hx, hb, hml, hown, hts⟩ (r_in_m1_2 l D cI cJ cB cC b H.size) (va_cwS 3 hts gX11_blue_X11_in rfl rfl rfl hdX11_in ⟨Nat.le_of_ble_eq_true rfl, Nat.le_of_ble_eq_true rfl⟩) ⟨kBlind, fun U hU hW => ⟨rfl, by rw [hU], hN.warm hW, hE.pass hS hFc hW hU, by rw [hU]; exact hPc, va_K.moved hW.alike hK, hDc⟩⟩ rfl rfl hl.1 rfl (lv_room (Nat.le_of_ble_eq_true rfl)) dX11_blue_18 ⟨Nat.le_of_ble_eq_true rfl, Nat.le_of_ble_eq_true rfl⟩) (fun r28 u H locs hw hP hS => ?_)
    obtain ⟨k29, hw⟩ := hw
    rcases hw with rfl | ⟨rfl, kc30_0⟩
    · skip
      refine lv_if_eq (tgt := 34) hx hb dX11_blue_21 (by decide) (fun _ => ?_) (fun c31 => absurd (by decide) c31)
      exact hJ34 () _ _ _ ⟨(kLet_eq (k2).symm (kif_f (by decide) (kLet_eq (k29).symm (kif_t rfl rfl)))), hP.sub (ws' := [(h, oX11 0 aw ai ab ac hi re aP ta po en be de fa a5 sp av an ak ne aW aC ag aT aN aF), (aw, kcI cI 2179 fw)]) [0, 1] rfl, hD.sub (ws' := [(h, oX11 0 aw ai ab ac hi re aP ta po en be de fa a5 sp av an ak ne aW aC ag aT aN aF), (aw, kcI cI 2179 fw)]) [0, 1] (by decide) rfl, hS, lv_sub (l' := [(0, .ref h), (1, .int mm), (2, .int b), (3, .int n)]) hl [0, 1, 2, 3] rfl⟩
    · skip
      refine lv_if_eq (tgt := 34) hx hb dX11_blue_21 (by decide) (fun c32 => absurd c32 (by decide)) (fun _ => ?_)
      refine lv_iload_n hx hb dX11_blue_24 rfl (lv_at hl 3 rfl) ?_
      refine lv_iconst (v := 1) hx hb dX11_blue_25 (by decide) ?_
      refine lv_bipush (v := 9) hx hb dX11_blue_26 (by decide) ?_
      refine kpurei (wc := []) hP hD hS hA [] rfl (by decide) (fun hPc hDc hFc => va_runS (As := [.int n, .int 1, .int 9]) (rest := [.ref h]) ⟨hx, hb, hml, hown, hts⟩ (r_in_1_9 l D cI cJ cB cC n H.size) (va_cwS 3 hts gX11_blue_X11_in rfl rfl rfl hdX11_in ⟨Nat.le_of_ble_eq_true rfl, Nat.le_of_ble_eq_true rfl⟩) ⟨kBlind, fun U hU hW => ⟨rfl, by rw [hU], hN.warm hW, hE.pass hS hFc hW hU, by rw [hU]; exact hPc, va_K.moved hW.alike hK, hDc⟩⟩ rfl rfl hl.1 rfl (lv_room (Nat.le_of_ble_eq_true rfl)) dX11_blue_28 ⟨Nat.le_of_ble_eq_true rfl, Nat.le_of_ble_eq_true rfl⟩) (fun r33 u H locs hw hP hS => ?_)
      obtain ⟨k34, hw⟩ := hw
      rcases hw with rfl | ⟨rfl, kc35_0⟩
      · skip
        refine lv_if_ne (tgt := 38) hx hb dX11_blue_31 (by decide) (fun c36 => absurd (by decide) c36) (fun _ => ?_)
        exact hJ34 () _ _ _ ⟨(kLet_eq (k2).symm (kif_f (by decide) (kLet_eq (k29).symm (kif_f (by decide) (kLet_eq (k34).symm (kif_t rfl rfl)))))), hP.sub (ws' := [(h, oX11 0 aw ai ab ac hi re aP ta po en be de fa a5 sp av an ak ne aW aC ag aT aN aF), (aw, kcI cI 2179 fw)]) [0, 1] rfl, hD.sub (ws' := [(h, oX11 0 aw ai ab ac hi re aP ta po en be de fa a5 sp av an ak ne aW aC ag aT aN aF), (aw, kcI cI 2179 fw)]) [0, 1] (by decide) rfl, hS, lv_sub (l' := [(0, .ref h), (1, .int mm), (2, .int b), (3, .int n)]) hl [0, 1, 2, 3] rfl⟩
      · skip
        refine lv_if_ne (tgt := 38) hx hb dX11_blue_31 (by decide) (fun _ => ?_) (fun c37 => absurd c37 (by decide))
        refine lv_iconst (v := 0) hx hb dX11_blue_38 (by decide) ?_
        refine lv_iconst (v := 1) hx hb dX11_blue_39 (by decide) ?_
        refine kpurei (wc := [(h, oX11 0 aw ai ab ac hi re aP ta po en be de fa a5 sp av an ak ne aW aC ag aT aN aF)]) hP hD hS hA [0] rfl (by decide) (fun hPc hDc hFc => va_runV (As := [.int 0, .int 1]) (rest := []) ⟨hx, hb, hml, hown, hts⟩ (r_throwsIf0_1 l D cI cJ cB cC h 0 aw ai ab ac hi re aP ta po en be de fa a5 sp av an ak ne aW aC ag aT aN aF 1 H.size) (cwV 2 hts gX11_blue_X11_throwsIf rfl rfl rfl ⟨rfl, hdX11_throwsIf⟩ ⟨Nat.le_of_ble_eq_true rfl, Nat.le_of_ble_eq_true rfl⟩) ⟨kBlind, va_recv hK hPc (ci := 10) (q0 := 0) rfl rfl, fun U hU hW => ⟨rfl, by rw [hU], hN.warm hW, hE.pass hS hFc hW hU, by rw [hU]; exact hPc, va_K.moved hW.alike hK, hDc⟩⟩ rfl rfl hl.1 rfl (lv_room (Nat.le_of_ble_eq_true rfl)) dX11_blue_40 ⟨Nat.le_of_ble_eq_true rfl, Nat.le_of_ble_eq_true rfl⟩) (fun r38 u H locs hw hP hS => ?_)
        obtain ⟨k39, k40⟩ := hw
        refine lv_if_eq (tgt := 48) hx hb dX11_blue_43 (by decide) (fun _ => ?_) (fun c41 => absurd (rg_eq k39 (rg_lit (n := 0) (by decide)) (by decide)) c41)
        refine lv_ldc2 (v := 1000000000) hx hb hown (hts _ w51_0) dX11_blue_48 ?_
        refine lv_lstore (lv' := [(4, .long 1000000000), (0, .ref h), (1, .int mm), (2, .int b), (3, .int n)]) hx hb dX11_blue_51 hl (by decide) rfl (fun ls hl => ?_)
        refine lv_iconst (v := 0) hx hb dX11_blue_53 (by decide) ?_
        refine lv_istore (lv' := [(6, .int 0), (4, .long 1000000000), (0, .ref h), (1, .int mm), (2, .int b), (3, .int n)]) hx hb dX11_blue_54 hl (by decide) rfl (fun ls hl => ?_)
        refine k_loop (hd := 56) (fun (u : Int32 × Int64) => match u with | (y436, y437) => (9 - (y436).toInt).toNat) (fun (u : Int32 × Int64) (H : Heap) (locs : List Loc) (ls : Array Slot) => match u with | (y436, y437) => (F_r_blue (gT fw) mm.toInt b.toInt n.toInt = F_r_blue_l2 (gT fw) mm.toInt b.toInt n.toInt (y436.toInt, y437)) ∧ Rg y436 0 9 ∧ va_P D vwCl [(h, oX11 0 aw ai ab ac hi re aP ta po en be de fa a5 sp av an ak ne aW aC ag aT aN aF), (aw, kcI cI 2179 fw)] H ∧ va_D A [(h, oX11 0 aw ai ab ac hi re aP ta po en be de fa a5 sp av an ak ne aW aC ag aT aN aF), (aw, kcI cI 2179 fw)] ∧ va_S A s.heap H locs ∧ lv_has ls 7 [(6, .int y436), (4, .long y437), (0, .ref h), (1, .int mm), (2, .int b), (3, .int n)]) ((0 : Int32), (1000000000 : Int64)) ⟨(kLet_eq (k2).symm (kif_f (by decide) (kLet_eq (k29).symm (kif_f (by decide) (kLet_eq (k34).symm (kif_f (by decide) (kLet_eq (k40).symm rfl))))))), (rg_w (rg_lit (n := 0) (by decide)) (by decide)), hP.sub (ws' := [(h, oX11 0 aw ai ab ac hi re aP ta po en be de fa a5 sp av an ak ne aW aC ag aT aN aF), (aw, kcI cI 2179 fw)]) [0, 1] rfl, hD.sub (ws' := [(h, oX11 0 aw ai ab ac hi re aP ta po en be de fa a5 sp av an ak ne aW aC ag aT aN aF), (aw, kcI cI 2179 fw)]) [0, 1] (by decide) rfl, hS, lv_sub (l' := [(6, .int 0), (4, .long 1000000000), (0, .ref h), (1, .int mm), (2, .int b), (3, .int n)]) hl [0, 1, 2, 3, 4, 5] rfl⟩ (fun u H locs ls hI ih438 => ?_)
        clear hP hD hS hl
        obtain ⟨y436, y437⟩ := u
        obtain ⟨hF2, hy436, hP, hD, hS, hl⟩ := hI
        have hP : va_P D vwCl [(h, oX11 0 aw ai ab ac hi re aP ta po en be de fa a5 sp av an ak ne aW aC ag aT aN aF), (aw, kcI cI 2179 fw)] H := hP
        have hD : va_D A [(h, oX11 0 aw ai ab ac hi re aP ta po en be de fa a5 sp av an ak ne aW aC ag aT aN aF), (aw, kcI cI 2179 fw)] := hD
        have hl : lv_has ls 7 [(6, .int y436), (4, .long y437), (0, .ref h), (1, .int mm), (2, .int b), (3, .int n)] := hl
        refine lv_iload hx hb dX11_blue_56 (lv_at hl 0 rfl) ?_
        refine lv_iload_n hx hb dX11_blue_58 rfl (lv_at hl 5 rfl) ?_
        refine lv_icmp_ge (tgt := 126) hx hb dX11_blue_59 (by decide) (fun c439 => ?_) (fun c439 => ?_)
        · skip
          have k440 : Rg y436 1 9 := rg_e2 (leI c439) kc35_0 hy436 (by decide)
          refine lv_lload hx hb dX11_blue_126 (lv_at hl 1 rfl) ?_
          refine lv_l2i hx hb dX11_blue_128 rfl ?_
          refine lv_topi (fun x441 ex441 => ?_)
          have hP9 := hP.sub (ws' := [(h, oX11 0 aw ai ab ac hi re aP ta po en be de fa a5 sp av an ak ne aW aC ag aT aN aF), (aw, kcI cI 2179 fw)]) [0, 1] rfl
          have hD9 := hD.sub (ws' := [(h, oX11 0 aw ai ab ac hi re aP ta po en be de fa a5 sp av an ak ne aW aC ag aT aN aF), (aw, kcI cI 2179 fw)]) [0, 1] (by decide) rfl
          exact W.iret (v := x441) hx hb hr (fun t ht hW => ⟨⟨x441, ((0 : Int32)), rfl, (hF2.trans (kIter_out (kC_eq rfl (kif_t (leI c439) (kLet_eq (ke_l2i ex441) rfl))))), by rw [ht]; exact hP9, va_K.moved hW.alike hK, hD9⟩, hS.F ht⟩) hS.2.2 dX11_blue_129
        · skip
          have k442 : Rg y436 0 8 := rg_l1 (nleI c439) hy436 kc35_0 (by decide)
          refine lv_iload_n hx hb dX11_blue_62 rfl (lv_at hl 3 rfl) ?_
          refine k_join (hd := 89) (cells2 := 0) (slots2 := 0) (fun (z452 : Int64) => [.long z452]) (fun (z452 : Int64) (H : Heap) (locs : List Loc) (ls : Array Slot) => (F_r_blue_l2_s (gT fw) mm.toInt b.toInt n.toInt (y436.toInt, y437) = F_r_blue_j3 (gT fw) b.toInt y436.toInt z452) ∧ va_P D vwCl [(h, oX11 0 aw ai ab ac hi re aP ta po en be de fa a5 sp av an ak ne aW aC ag aT aN aF), (aw, kcI cI 2179 fw)] H ∧ va_D A [(h, oX11 0 aw ai ab ac hi re aP ta po en be de fa a5 sp av an ak ne aW aC ag aT aN aF), (aw, kcI cI 2179 fw)] ∧ va_S A s.heap H locs ∧ lv_has ls 7 [(6, .int y436), (4, .long y437), (0, .ref h), (1, .int mm), (2, .int b), (3, .int n)]) (fun u H locs ls hI => ?_) (fun hJ89 => ?_)
          · skip
            clear hP hD hS hl
            obtain ⟨z452, rfl⟩ : ∃ z, z = u := ⟨_, rfl⟩
            obtain ⟨hF3, hP, hD, hS, hl⟩ := hI
            have hP : va_P D vwCl [(h, oX11 0 aw ai ab ac hi re aP ta po en be de fa a5 sp av an ak ne aW aC ag aT aN aF), (aw, kcI cI 2179 fw)] H := hP
            have hD : va_D A [(h, oX11 0 aw ai ab ac hi re aP ta po en be de fa a5 sp av an ak ne aW aC ag aT aN aF), (aw, kcI cI 2179 fw)] := hD
            have hl : lv_has ls 7 [(6, .int y436), (4, .long y437), (0, .ref h), (1, .int mm), (2, .int b), (3, .int n)] := hl
            show W _ _ _ _ _ _ _ _ _ _ _ _ _ _ _ (F0 m 89 ls [.long z452])
            refine lv_lstore (lv' := [(4, .long z452), (6, .int y436), (0, .ref h), (1, .int mm), (2, .int b), (3, .int n)]) hx hb dX11_blue_89 hl (by decide) rfl (fun ls hl => ?_)
            refine lv_iload_n hx hb dX11_blue_91 rfl (lv_at hl 4 rfl) ?_
            refine k_join (hd := 118) (cells2 := 0) (slots2 := 0) (fun (z462 : Int64) => [.long z462]) (fun (z462 : Int64) (H : Heap) (locs : List Loc) (ls : Array Slot) => (F_r_blue_l2_s (gT fw) mm.toInt b.toInt n.toInt (y436.toInt, y437) = F_r_blue_j4 y436.toInt z462) ∧ va_P D vwCl [(h, oX11 0 aw ai ab ac hi re aP ta po en be de fa a5 sp av an ak ne aW aC ag aT aN aF), (aw, kcI cI 2179 fw)] H ∧ va_D A [(h, oX11 0 aw ai ab ac hi re aP ta po en be de fa a5 sp av an ak ne aW aC ag aT aN aF), (aw, kcI cI 2179 fw)] ∧ va_S A s.heap H locs ∧ lv_has ls 7 [(4, .long z452), (6, .int y436), (0, .ref h), (1, .int mm), (2, .int b), (3, .int n)]) (fun u H locs ls hI => ?_) (fun hJ118 => ?_)
            · skip
              clear hP hD hS hl
              obtain ⟨z462, rfl⟩ : ∃ z, z = u := ⟨_, rfl⟩
              obtain ⟨hF4, hP, hD, hS, hl⟩ := hI
              have hP : va_P D vwCl [(h, oX11 0 aw ai ab ac hi re aP ta po en be de fa a5 sp av an ak ne aW aC ag aT aN aF), (aw, kcI cI 2179 fw)] H := hP
              have hD : va_D A [(h, oX11 0 aw ai ab ac hi re aP ta po en be de fa a5 sp av an ak ne aW aC ag aT aN aF), (aw, kcI cI 2179 fw)] := hD
              have hl : lv_has ls 7 [(4, .long z452), (6, .int y436), (0, .ref h), (1, .int mm), (2, .int b), (3, .int n)] := hl
              show W _ _ _ _ _ _ _ _ _ _ _ _ _ _ _ (F0 m 118 ls [.long z462])
              refine lv_lstore (lv' := [(4, .long z462), (6, .int y436), (0, .ref h), (1, .int mm), (2, .int b), (3, .int n)]) hx hb dX11_blue_118 hl (by decide) rfl (fun ls hl => ?_)
              obtain ⟨x463, ex463⟩ : ∃ y : Int32, y = y436 + 1 := ⟨_, rfl⟩
              refine lv_iinc (v := x463) (lv' := [(6, .int x463), (4, .long z462), (0, .ref h), (1, .int mm), (2, .int b), (3, .int n)]) hx hb dX11_blue_120 hl (k := 1) rfl (by rw [ex463]; rfl) (by decide) rfl (fun ls hl => ?_)
              have k464 : Rg x463 1 9 := rg_add ex463 k442 (rg_lit (n := 1) (by decide)) (by decide)
              refine lv_goto (tgt := 56) hx hb dX11_blue_123 (by decide) ?_
              exact ih438 (x463, z462) _ _ _ (by show (9 - (x463).toInt).toNat < (9 - (y436).toInt).toNat; exact mu_up ex463 k442 k464 (by decide)) ⟨(hF2.trans (kIter_go (hF4.trans (kLet_eq (ti_add ex463 k442 (rg_lit (n := 1) (by decide)) (by decide) rfl rfl) rfl)))), (rg_w k464 (by decide)), hP.sub (ws' := [(h, oX11 0 aw ai ab ac hi re aP ta po en be de fa a5 sp av an ak ne aW aC ag aT aN aF), (aw, kcI cI 2179 fw)]) [0, 1] rfl, hD.sub (ws' := [(h, oX11 0 aw ai ab ac hi re aP ta po en be de fa a5 sp av an ak ne aW aC ag aT aN aF), (aw, kcI cI 2179 fw)]) [0, 1] (by decide) rfl, hS, lv_sub (l' := [(6, .int x463), (4, .long z462), (0, .ref h), (1, .int mm), (2, .int b), (3, .int n)]) hl [0, 1, 2, 3, 4, 5] rfl⟩
            refine lv_if_le (tgt := 116) hx hb dX11_blue_92 (by decide) (fun c465 => ?_) (fun c465 => ?_)
            · skip
              have k466 : Rg b (-1) 0 := rg_e1 (leI c465) kc30_0 (rg_lit (n := 0) (by decide)) (by decide)
              refine lv_lload hx hb dX11_blue_116 (lv_at hl 0 rfl) ?_
              exact hJ118 (z452) _ _ _ ⟨(hF3.trans (kif_t (leI c465) rfl)), hP.sub (ws' := [(h, oX11 0 aw ai ab ac hi re aP ta po en be de fa a5 sp av an ak ne aW aC ag aT aN aF), (aw, kcI cI 2179 fw)]) [0, 1] rfl, hD.sub (ws' := [(h, oX11 0 aw ai ab ac hi re aP ta po en be de fa a5 sp av an ak ne aW aC ag aT aN aF), (aw, kcI cI 2179 fw)]) [0, 1] (by decide) rfl, hS, lv_sub (l' := [(4, .long z452), (6, .int y436), (0, .ref h), (1, .int mm), (2, .int b), (3, .int n)]) hl [0, 1, 2, 3, 4, 5] rfl⟩
            · skip
              have k467 : Rg b 1 2 := rg_l2 (nleI c465) (rg_lit (n := 0) (by decide)) kc30_0 (by decide)
              refine lv_lload hx hb dX11_blue_95 (lv_at hl 0 rfl) ?_
              refine lv_bipush (v := 100) hx hb dX11_blue_97 (by decide) ?_
              refine lv_aload_n hx hb dX11_blue_99 rfl (lv_at hl 2 rfl) ?_
              refine va_get (D := D) (ci := 10) (v := .ref aw) (C := RX11) (T := TX11) (N := 26) hx hb hts iG_X11 hown hK hP 0 rfl rfl 1 (by decide) (hts _ w5_3) (fun _ h9 => h9) rfl dX11_blue_100 ?_
              refine lv_bipush (v := 8) hx hb dX11_blue_103 (by decide) ?_
              refine va_iald hx hb hK hP 1 0 rfl rfl (rg_in (rg_lit (n := 8) (by decide)) (by decide)) dX11_blue_105 ?_
              refine lv_topi (fun x468 ex468 => ?_)
              refine lv_isub hx hb dX11_blue_106 ?_
              refine lv_topi (fun x469 ex469 => ?_)
              refine lv_i2l hx hb dX11_blue_107 rfl ?_
              refine lv_topl (fun x470 ex470 => ?_)
              refine lv_lmul hx hb dX11_blue_108 ?_
              refine lv_topl (fun x471 ex471 => ?_)
              refine lv_ldc2 (v := 100) hx hb hown (hts _ w51_1) dX11_blue_109 ?_
              refine lv_ldiv hx hb dX11_blue_112 (by decide) ?_
              refine lv_topl (fun x472 ex472 => ?_)
              refine lv_goto (tgt := 118) hx hb dX11_blue_113 (by decide) ?_
              exact hJ118 (x472) _ _ _ ⟨(hF3.trans (kif_f (xF_le c465) (kLet_eq (ke_ld ex468) (kLet_eq (ke_wsub ex469) (kLet_eq (ke_i2l ex470) (kLet_eq ex471 (kLet_eq ex472 rfl))))))), hP.sub (ws' := [(h, oX11 0 aw ai ab ac hi re aP ta po en be de fa a5 sp av an ak ne aW aC ag aT aN aF), (aw, kcI cI 2179 fw)]) [0, 1] rfl, hD.sub (ws' := [(h, oX11 0 aw ai ab ac hi re aP ta po en be de fa a5 sp av an ak ne aW aC ag aT aN aF), (aw, kcI cI 2179 fw)]) [0, 1] (by decide) rfl, hS, lv_sub (l' := [(4, .long z452), (6, .int y436), (0, .ref h), (1, .int mm), (2, .int b), (3, .int n)]) hl [0, 1, 2, 3, 4, 5] rfl⟩
          refine lv_if_le (tgt := 87) hx hb dX11_blue_63 (by decide) (fun c473 => ?_) (fun c473 => ?_)
          · skip
            have k474 : Rg mm (-1) 0 := rg_e1 (leI c473) kc3_0 (rg_lit (n := 0) (by decide)) (by decide)
            refine lv_lload hx hb dX11_blue_87 (lv_at hl 1 rfl) ?_
            exact hJ89 (y437) _ _ _ ⟨(kC_eq rfl (kif_f (xF_le c439) (kif_t (leI c473) rfl))), hP.sub (ws' := [(h, oX11 0 aw ai ab ac hi re aP ta po en be de fa a5 sp av an ak ne aW aC ag aT aN aF), (aw, kcI cI 2179 fw)]) [0, 1] rfl, hD.sub (ws' := [(h, oX11 0 aw ai ab ac hi re aP ta po en be de fa a5 sp av an ak ne aW aC ag aT aN aF), (aw, kcI cI 2179 fw)]) [0, 1] (by decide) rfl, hS, lv_sub (l' := [(6, .int y436), (4, .long y437), (0, .ref h), (1, .int mm), (2, .int b), (3, .int n)]) hl [0, 1, 2, 3, 4, 5] rfl⟩
          · skip
            have k475 : Rg mm 1 2 := rg_l2 (nleI c473) (rg_lit (n := 0) (by decide)) kc3_0 (by decide)
            refine lv_lload hx hb dX11_blue_66 (lv_at hl 1 rfl) ?_
            refine lv_bipush (v := 100) hx hb dX11_blue_68 (by decide) ?_
            refine lv_aload_n hx hb dX11_blue_70 rfl (lv_at hl 2 rfl) ?_
            refine va_get (D := D) (ci := 10) (v := .ref aw) (C := RX11) (T := TX11) (N := 26) hx hb hts iG_X11 hown hK hP 0 rfl rfl 1 (by decide) (hts _ w5_3) (fun _ h9 => h9) rfl dX11_blue_71 ?_
            refine lv_bipush (v := 8) hx hb dX11_blue_74 (by decide) ?_
            refine va_iald hx hb hK hP 1 0 rfl rfl (rg_in (rg_lit (n := 8) (by decide)) (by decide)) dX11_blue_76 ?_
            refine lv_topi (fun x476 ex476 => ?_)
            refine lv_isub hx hb dX11_blue_77 ?_
            refine lv_topi (fun x477 ex477 => ?_)
            refine lv_i2l hx hb dX11_blue_78 rfl ?_
            refine lv_topl (fun x478 ex478 => ?_)
            refine lv_lmul hx hb dX11_blue_79 ?_
            refine lv_topl (fun x479 ex479 => ?_)
            refine lv_ldc2 (v := 100) hx hb hown (hts _ w51_1) dX11_blue_80 ?_
            refine lv_ldiv hx hb dX11_blue_83 (by decide) ?_
            refine lv_topl (fun x480 ex480 => ?_)
            refine lv_goto (tgt := 89) hx hb dX11_blue_84 (by decide) ?_
            exact hJ89 (x480) _ _ _ ⟨(kC_eq rfl (kif_f (xF_le c439) (kif_f (xF_le c473) (kLet_eq (ke_ld ex476) (kLet_eq (ke_wsub ex477) (kLet_eq (ke_i2l ex478) (kLet_eq ex479 (kLet_eq ex480 rfl)))))))), hP.sub (ws' := [(h, oX11 0 aw ai ab ac hi re aP ta po en be de fa a5 sp av an ak ne aW aC ag aT aN aF), (aw, kcI cI 2179 fw)]) [0, 1] rfl, hD.sub (ws' := [(h, oX11 0 aw ai ab ac hi re aP ta po en be de fa a5 sp av an ak ne aW aC ag aT aN aF), (aw, kcI cI 2179 fw)]) [0, 1] (by decide) rfl, hS, lv_sub (l' := [(6, .int y436), (4, .long y437), (0, .ref h), (1, .int mm), (2, .int b), (3, .int n)]) hl [0, 1, 2, 3, 4, 5] rfl⟩

def kwX11_seed : List Cond := .code yX11_seed cX11_seed 3 (some .int) :: kG
theorem hdX11_seed : yX11_seed.cls ≠ "java/lang/invoke/MethodHandle" ∧ yX11_seed.cls ≠ "java/lang/invoke/VarHandle" ∧ (parseMethodDescriptor yX11_seed.desc).map (fun d => d.parameters.length) = some 1 := by decide +kernel
theorem dX11_seed_0 : decode cX11_seed 0 = .ok (.aload_n 0, 1) := by decide +kernel
theorem dX11_seed_1 : decode cX11_seed 1 = .ok (.iconst 0, 1) := by decide +kernel
theorem dX11_seed_2 : decode cX11_seed 2 = .ok (.putfield 3, 3) := by decide +kernel
theorem dX11_seed_5 : decode cX11_seed 5 = .ok (.aload_n 0, 1) := by decide +kernel
theorem dX11_seed_6 : decode cX11_seed 6 = .ok (.getfield 13, 3) := by decide +kernel
theorem dX11_seed_9 : decode cX11_seed 9 = .ok (.bipush 9, 2) := by decide +kernel
theorem dX11_seed_11 : decode cX11_seed 11 = .ok (.iaload, 1) := by decide +kernel
theorem dX11_seed_12 : decode cX11_seed 12 = .ok (.istore_n 2, 1) := by decide +kernel
theorem dX11_seed_13 : decode cX11_seed 13 = .ok (.aload_n 0, 1) := by decide +kernel
theorem dX11_seed_14 : decode cX11_seed 14 = .ok (.getfield 13, 3) := by decide +kernel
theorem dX11_seed_17 : decode cX11_seed 17 = .ok (.bipush 9, 2) := by decide +kernel
theorem dX11_seed_19 : decode cX11_seed 19 = .ok (.iload_n 1, 1) := by decide +kernel
theorem dX11_seed_20 : decode cX11_seed 20 = .ok (.iastore, 1) := by decide +kernel
theorem dX11_seed_21 : decode cX11_seed 21 = .ok (.iload_n 2, 1) := by decide +kernel
theorem dX11_seed_22 : decode cX11_seed 22 = .ok (.ireturn, 1) := by decide +kernel
set_option maxHeartbeats 4000000 in
set_option maxRecDepth 100000 in
/-- reference: seed -/
theorem r_seed (l : Launch) (D : va_G) (cI cJ cB cC : ClassId) (h : Nat) (th : Int32) (aw : Nat) (ai : Nat) (ab : Nat) (ac : Nat) (hi : Int32) (re : Int32) (aP : Nat) (ta : Int32) (po : Int32) (en : Int32) (be : Int32) (de : Int32) (fa : Int32) (a5 : Nat) (sp : Int32) (av : Nat) (an : Nat) (ak : Nat) (ne : Int32) (aW : Nat) (aC : Nat) (ag : Nat) (aT : Nat) (aN : Nat) (aF : Nat) (fw : Nat → Int32) (n : Int32) (sz : Nat) (H_fw_W : wW fw) (H_fw_B : wB fw) (H_fw_L : wL fw) : Met l yX11_seed kwX11_seed ({ frames := 0, cells := 0, slots := 0, locals := 0 } : Room) (kPre D (kT cI cJ cB cC) sz [(h, oX11 th aw ai ab ac hi re aP ta po en be de fa a5 sp av an ak ne aW aC ag aT aN aF), (aw, kcI cI 2179 fw)] [.ref h, .int n]) (va_Qi (fun (r : Int32) (f0_ : (Nat → Int32)) => wB f0_ ∧ wL f0_ ∧ wW f0_ ∧ F_r_seed (gT fw) (n : Int32).toInt = ((r : Int32).toInt, (gT f0_))) (fun (f0_ : (Nat → Int32)) (t : State) => kB D (kT cI cJ cB cC) (va_A [(h, oX11 th aw ai ab ac hi re aP ta po en be de fa a5 sp av an ak ne aW aC ag aT aN aF), (aw, kcI cI 2179 fw)] sz) [(h, oX11 0 aw ai ab ac hi re aP ta po en be de fa a5 sp av an ak ne aW aC ag aT aN aF), (aw, kcI cI 2179 f0_)] t) (va_A [(h, oX11 th aw ai ab ac hi re aP ta po en be de fa a5 sp av an ak ne aW aC ag aT aN aF), (aw, kcI cI 2179 fw)] sz)) 0 0 (va_A [(h, oX11 th aw ai ab ac hi re aP ta po en be de fa a5 sp av an ak ne aW aC ag aT aN aF), (aw, kcI cI 2179 fw)] sz) := by
  refine Met.ofW (cc := cX11_seed) (maxL := 3) (ret := (some .int)) (by decide) rfl ?_
  intro p e s m args below meth c s₁ B hml hv
  obtain ⟨rfl, hsz, hN, hE, hP, hK, hD0⟩ := hv
  have hx := B.exec
  have hb := B.bytes
  have hr := B.returns
  have hts := fun (w : Cond) (h : w ∈ kG) => atoms_spec (ws := kwX11_seed) B.pre w (List.mem_cons_of_mem _ h)
  have hown : s.vm.findClass RX11 = some m.cls := findClass_of_methodNamed B.named
  subst hsz
  have hD := hD0.self (sz := s.heap.size)
  generalize hAe : va_A [(h, oX11 th aw ai ab ac hi re aP ta po en be de fa a5 sp av an ak ne aW aC ag aT aN aF), (aw, kcI cI 2179 fw)] s.heap.size = A at hD hE ⊢
  have hA : ∀ q : Nat, s.heap.size ≤ q → A q := fun q h => by rw [← hAe]; exact Or.inr h
  have hl := lv_entry ([.ref h, .int n]) (n := 3) (Nat.le_of_ble_eq_true rfl)
  rw [lg_entry_eq]
  generalize (lg_sl ([.ref h, .int n]) ++ List.replicate (3 - (lg_sl ([.ref h, .int n])).length) Slot.unset).toArray = ls at hl ⊢
  have hl : lv_has ls 3 [(0, .ref h), (1, .int n)] := hl
  obtain ⟨H, hH0⟩ : ∃ H, H = s.heap := ⟨_, rfl⟩
  have hS : va_S A s.heap H [] := by rw [hH0]; exact va_S.rf
  have hP : va_P D vwCl [(h, oX11 th aw ai ab ac hi re aP ta po en be de fa a5 sp av an ak ne aW aC ag aT aN aF), (aw, kcI cI 2179 fw)] H := by rw [hH0]; exact hP
  refine kHeap hH0 ?_
  clear hH0
  refine lv_aload_n hx hb dX11_seed_0 rfl (lv_at hl 0 rfl) ?_
  refine lv_iconst (v := 0) hx hb dX11_seed_1 (by decide) ?_
  refine va_put (D := D) (ci := 10) (v := .int 0) (ty := .int) (C := RX11) (T := TX11) (N := 26) hx hb hts iG_X11 tyX11 tyX11_ok nmX11 hown hK hP hD hS 0 rfl rfl 0 (by decide) (hts _ w6_8) (fun _ h9 => h9) rfl (by decide +kernel) rfl rfl (Nat.le_of_ble_eq_true rfl) dX11_seed_2 (fun H locs hP hD hS => ?_)
  have hP : va_P D vwCl [(h, oX11 0 aw ai ab ac hi re aP ta po en be de fa a5 sp av an ak ne aW aC ag aT aN aF), (aw, kcI cI 2179 fw)] H := hP
  have hD : va_D A [(h, oX11 0 aw ai ab ac hi re aP ta po en be de fa a5 sp av an ak ne aW aC ag aT aN aF), (aw, kcI cI 2179 fw)] := hD
  refine lv_aload_n hx hb dX11_seed_5 rfl (lv_at hl 0 rfl) ?_
  refine va_get (D := D) (ci := 10) (v := .ref aw) (C := RX11) (T := TX11) (N := 26) hx hb hts iG_X11 hown hK hP 0 rfl rfl 1 (by decide) (hts _ w5_3) (fun _ h9 => h9) rfl dX11_seed_6 ?_
  refine lv_bipush (v := 9) hx hb dX11_seed_9 (by decide) ?_
  refine va_iald hx hb hK hP 1 0 rfl rfl (rg_in (rg_lit (n := 9) (by decide)) (by decide)) dX11_seed_11 ?_
  refine lv_topi (fun x1 ex1 => ?_)
  refine lv_istore_n (lv' := [(2, .int x1), (0, .ref h), (1, .int n)]) hx hb dX11_seed_12 rfl hl (by decide) rfl (fun ls hl => ?_)
  refine lv_aload_n hx hb dX11_seed_13 rfl (lv_at hl 1 rfl) ?_
  refine va_get (D := D) (ci := 10) (v := .ref aw) (C := RX11) (T := TX11) (N := 26) hx hb hts iG_X11 hown hK hP 0 rfl rfl 1 (by decide) (hts _ w5_3) (fun _ h9 => h9) rfl dX11_seed_14 ?_
  refine lv_bipush (v := 9) hx hb dX11_seed_17 (by decide) ?_
  refine lv_iload_n hx hb dX11_seed_19 rfl (lv_at hl 2 rfl) ?_
  refine va_iast hx hb hK hP hD hS 1 0 rfl rfl (rg_in (rg_lit (n := 9) (by decide)) (by decide)) dX11_seed_20 (fun H locs hP hD hS => ?_)
  have hP : va_P D vwCl [(h, oX11 0 aw ai ab ac hi re aP ta po en be de fa a5 sp av an ak ne aW aC ag aT aN aF), (aw, kcI cI 2179 (upd fw (9 : Int32).toNatClampNeg n))] H := hP
  have hD : va_D A [(h, oX11 0 aw ai ab ac hi re aP ta po en be de fa a5 sp av an ak ne aW aC ag aT aN aF), (aw, kcI cI 2179 (upd fw (9 : Int32).toNatClampNeg n))] := hD
  have k3 : wW (upd fw (9 : Int32).toNatClampNeg n) := wW_lo H_fw_W (rg_lit (n := 9) (by decide)) (by decide)
  have k4 : wB (upd fw (9 : Int32).toNatClampNeg n) := wB_lo H_fw_B H_fw_W (rg_lit (n := 9) (by decide)) (by decide)
  have k5 : wL (upd fw (9 : Int32).toNatClampNeg n) := wL_out H_fw_L (rg_lit (n := 9) (by decide)) (by decide)
  generalize hg2 : (upd fw (9 : Int32).toNatClampNeg n) = g2 at hP hD k3 k4 k5
  refine lv_iload_n hx hb dX11_seed_21 rfl (lv_at hl 0 rfl) ?_
  have hP9 := hP.sub (ws' := [(h, oX11 0 aw ai ab ac hi re aP ta po en be de fa a5 sp av an ak ne aW aC ag aT aN aF), (aw, kcI cI 2179 g2)]) [0, 1] rfl
  have hD9 := hD.sub (ws' := [(h, oX11 0 aw ai ab ac hi re aP ta po en be de fa a5 sp av an ak ne aW aC ag aT aN aF), (aw, kcI cI 2179 g2)]) [0, 1] (by decide) rfl
  exact W.iret (v := x1) hx hb hr (fun t ht hW => ⟨⟨x1, (g2), rfl, ⟨k4, k5, k3, (kLet_eq (ke_ld ex1) (kLet_eq (ke_st hg2) rfl))⟩, by rw [ht]; exact hP9, va_K.moved hW.alike hK, hD9⟩, hS.F ht⟩) hS.2.2 dX11_seed_22

def kwX11_passed : List Cond := .code yX11_passed cX11_passed 5 (some .int) :: kG
theorem hdX11_passed : yX11_passed.cls ≠ "java/lang/invoke/MethodHandle" ∧ yX11_passed.cls ≠ "java/lang/invoke/VarHandle" ∧ (parseMethodDescriptor yX11_passed.desc).map (fun d => d.parameters.length) = some 1 := by decide +kernel
theorem gX11_passed_X11_has : GoodIn kG (va_wsS RX11 310 yX11_has kwX11_has) := gK w37_11 (gK w37_12 (gK w0_5 (gK w37_13 gGG)))
theorem gX11_passed_X11_isNeighbour : GoodIn kG (wsV RX11 267 RX11 yX11_isNeighbour kwX11_isNeighbour) := gK w27_11 (gK w27_12 (gK w27_13 (gK w0_5 (gK w27_14 gGG))))
theorem gX11_passed_X11_men : GoodIn kG (wsV RX11 71 RX11 yX11_men kwX11_men) := gK w19_17 (gK w19_18 (gK w19_19 (gK w0_5 (gK w19_20 gGG))))
theorem dX11_passed_0 : decode cX11_passed 0 = .ok (.iload_n 1, 1) := by decide +kernel
theorem dX11_passed_1 : decode cX11_passed 1 = .ok (.istore_n 2, 1) := by decide +kernel
theorem dX11_passed_2 : decode cX11_passed 2 = .ok (.iconst 0, 1) := by decide +kernel
theorem dX11_passed_3 : decode cX11_passed 3 = .ok (.istore_n 3, 1) := by decide +kernel
theorem dX11_passed_4 : decode cX11_passed 4 = .ok (.iload_n 3, 1) := by decide +kernel
theorem dX11_passed_5 : decode cX11_passed 5 = .ok (.aload_n 0, 1) := by decide +kernel
theorem dX11_passed_6 : decode cX11_passed 6 = .ok (.invokevirtual 71, 3) := by decide +kernel
theorem dX11_passed_9 : decode cX11_passed 9 = .ok (.if_icmp .ge 56, 3) := by decide +kernel
theorem dX11_passed_12 : decode cX11_passed 12 = .ok (.iconst 0, 1) := by decide +kernel
theorem dX11_passed_13 : decode cX11_passed 13 = .ok (.istore 4, 2) := by decide +kernel
theorem dX11_passed_15 : decode cX11_passed 15 = .ok (.iload 4, 2) := by decide +kernel
theorem dX11_passed_17 : decode cX11_passed 17 = .ok (.aload_n 0, 1) := by decide +kernel
theorem dX11_passed_18 : decode cX11_passed 18 = .ok (.invokevirtual 71, 3) := by decide +kernel
theorem dX11_passed_21 : decode cX11_passed 21 = .ok (.if_icmp .ge 38, 3) := by decide +kernel
theorem dX11_passed_24 : decode cX11_passed 24 = .ok (.iload_n 2, 1) := by decide +kernel
theorem dX11_passed_25 : decode cX11_passed 25 = .ok (.iload_n 1, 1) := by decide +kernel
theorem dX11_passed_26 : decode cX11_passed 26 = .ok (.iload_n 3, 1) := by decide +kernel
theorem dX11_passed_27 : decode cX11_passed 27 = .ok (.invokestatic 310, 3) := by decide +kernel
theorem dX11_passed_30 : decode cX11_passed 30 = .ok (.ifCond .eq 20, 3) := by decide +kernel
theorem dX11_passed_33 : decode cX11_passed 33 = .ok (.aload_n 0, 1) := by decide +kernel
theorem dX11_passed_34 : decode cX11_passed 34 = .ok (.iload_n 3, 1) := by decide +kernel
theorem dX11_passed_35 : decode cX11_passed 35 = .ok (.iload 4, 2) := by decide +kernel
theorem dX11_passed_37 : decode cX11_passed 37 = .ok (.invokevirtual 267, 3) := by decide +kernel
theorem dX11_passed_40 : decode cX11_passed 40 = .ok (.ifCond .eq 10, 3) := by decide +kernel
theorem dX11_passed_43 : decode cX11_passed 43 = .ok (.iconst 1, 1) := by decide +kernel
theorem dX11_passed_44 : decode cX11_passed 44 = .ok (.iload 4, 2) := by decide +kernel
theorem dX11_passed_46 : decode cX11_passed 46 = .ok (.ishl, 1) := by decide +kernel
theorem dX11_passed_47 : decode cX11_passed 47 = .ok (.goto 4, 3) := by decide +kernel
theorem dX11_passed_50 : decode cX11_passed 50 = .ok (.iconst 0, 1) := by decide +kernel
theorem dX11_passed_51 : decode cX11_passed 51 = .ok (.ior, 1) := by decide +kernel
theorem dX11_passed_52 : decode cX11_passed 52 = .ok (.istore_n 2, 1) := by decide +kernel
theorem dX11_passed_53 : decode cX11_passed 53 = .ok (.iinc 4 1, 3) := by decide +kernel
theorem dX11_passed_56 : decode cX11_passed 56 = .ok (.goto (-41), 3) := by decide +kernel
theorem dX11_passed_59 : decode cX11_passed 59 = .ok (.iinc 3 1, 3) := by decide +kernel
theorem dX11_passed_62 : decode cX11_passed 62 = .ok (.goto (-58), 3) := by decide +kernel
theorem dX11_passed_65 : decode cX11_passed 65 = .ok (.iload_n 2, 1) := by decide +kernel
theorem dX11_passed_66 : decode cX11_passed 66 = .ok (.ireturn, 1) := by decide +kernel
set_option maxHeartbeats 4000000 in
set_option maxRecDepth 100000 in
/-- reference: passed -/
theorem r_passed (l : Launch) (D : va_G) (cI cJ cB cC : ClassId) (h : Nat) (th : Int32) (aw : Nat) (ai : Nat) (ab : Nat) (ac : Nat) (hi : Int32) (re : Int32) (aP : Nat) (ta : Int32) (po : Int32) (en : Int32) (be : Int32) (de : Int32) (fa : Int32) (a5 : Nat) (sp : Int32) (av : Nat) (an : Nat) (ak : Nat) (ne : Int32) (aW : Nat) (aC : Nat) (ag : Nat) (aT : Nat) (aN : Nat) (aF : Nat) (fw : Nat → Int32) (mm : Int32) (sz : Nat) (H_fw_W : wW fw) : Met l yX11_passed kwX11_passed ({ frames := 2, cells := 0, slots := 0, locals := 44 } : Room) (kPre D (kT cI cJ cB cC) sz [(h, oX11 th aw ai ab ac hi re aP ta po en be de fa a5 sp av an ak ne aW aC ag aT aN aF), (aw, kcI cI 2179 fw)] [.ref h, .int mm]) (va_Qi (fun (r : Int32) (_ : Unit) => F_r_passed (gT fw) (mm : Int32).toInt = ((r : Int32).toInt)) (fun (_ : Unit) (t : State) => kB D (kT cI cJ cB cC) (va_A [(h, oX11 th aw ai ab ac hi re aP ta po en be de fa a5 sp av an ak ne aW aC ag aT aN aF), (aw, kcI cI 2179 fw)] sz) [(h, oX11 th aw ai ab ac hi re aP ta po en be de fa a5 sp av an ak ne aW aC ag aT aN aF), (aw, kcI cI 2179 fw)] t) (va_A [(h, oX11 th aw ai ab ac hi re aP ta po en be de fa a5 sp av an ak ne aW aC ag aT aN aF), (aw, kcI cI 2179 fw)] sz)) 0 0 (va_A [(h, oX11 th aw ai ab ac hi re aP ta po en be de fa a5 sp av an ak ne aW aC ag aT aN aF), (aw, kcI cI 2179 fw)] sz) := by
  refine Met.ofW (cc := cX11_passed) (maxL := 5) (ret := (some .int)) (by decide) rfl ?_
  intro p e s m args below meth c s₁ B hml hv
  obtain ⟨rfl, hsz, hN, hE, hP, hK, hD0⟩ := hv
  have hx := B.exec
  have hb := B.bytes
  have hr := B.returns
  have hts := fun (w : Cond) (h : w ∈ kG) => atoms_spec (ws := kwX11_passed) B.pre w (List.mem_cons_of_mem _ h)
  have hown : s.vm.findClass RX11 = some m.cls := findClass_of_methodNamed B.named
  subst hsz
  have hD := hD0.self (sz := s.heap.size)
  generalize hAe : va_A [(h, oX11 th aw ai ab ac hi re aP ta po en be de fa a5 sp av an ak ne aW aC ag aT aN aF), (aw, kcI cI 2179 fw)] s.heap.size = A at hD hE ⊢
  have hA : ∀ q : Nat, s.heap.size ≤ q → A q := fun q h => by rw [← hAe]; exact Or.inr h
  have hl := lv_entry ([.ref h, .int mm]) (n := 5) (Nat.le_of_ble_eq_true rfl)
  rw [lg_entry_eq]
  generalize (lg_sl ([.ref h, .int mm]) ++ List.replicate (5 - (lg_sl ([.ref h, .int mm])).length) Slot.unset).toArray = ls at hl ⊢
  have hl : lv_has ls 5 [(0, .ref h), (1, .int mm)] := hl
  obtain ⟨H, hH0⟩ : ∃ H, H = s.heap := ⟨_, rfl⟩
  have hS : va_S A s.heap H [] := by rw [hH0]; exact va_S.rf
  have hP : va_P D vwCl [(h, oX11 th aw ai ab ac hi re aP ta po en be de fa a5 sp av an ak ne aW aC ag aT aN aF), (aw, kcI cI 2179 fw)] H := by rw [hH0]; exact hP
  refine kHeap hH0 ?_
  clear hH0
  refine lv_iload_n hx hb dX11_passed_0 rfl (lv_at hl 1 rfl) ?_
  refine lv_istore_n (lv' := [(2, .int mm), (0, .ref h), (1, .int mm)]) hx hb dX11_passed_1 rfl hl (by decide) rfl (fun ls hl => ?_)
  refine lv_iconst (v := 0) hx hb dX11_passed_2 (by decide) ?_
  refine lv_istore_n (lv' := [(3, .int 0), (2, .int mm), (0, .ref h), (1, .int mm)]) hx hb dX11_passed_3 rfl hl (by decide) rfl (fun ls hl => ?_)
  refine k_loop (hd := 4) (fun (u : Int32 × Int32) => match u with | (y7645, y7646) => (10 - (y7645).toInt).toNat) (fun (u : Int32 × Int32) (H : Heap) (locs : List Loc) (ls : Array Slot) => match u with | (y7645, y7646) => (F_r_passed (gT fw) mm.toInt = F_r_passed_l1 (gT fw) mm.toInt (y7645.toInt, y7646.toInt)) ∧ Rg y7645 0 10 ∧ va_P D vwCl [(h, oX11 th aw ai ab ac hi re aP ta po en be de fa a5 sp av an ak ne aW aC ag aT aN aF), (aw, kcI cI 2179 fw)] H ∧ va_D A [(h, oX11 th aw ai ab ac hi re aP ta po en be de fa a5 sp av an ak ne aW aC ag aT aN aF), (aw, kcI cI 2179 fw)] ∧ va_S A s.heap H locs ∧ lv_has ls 5 [(3, .int y7645), (2, .int y7646), (0, .ref h), (1, .int mm)]) ((0 : Int32), mm) ⟨rfl, (rg_w (rg_lit (n := 0) (by decide)) (by decide)), hP.sub (ws' := [(h, oX11 th aw ai ab ac hi re aP ta po en be de fa a5 sp av an ak ne aW aC ag aT aN aF), (aw, kcI cI 2179 fw)]) [0, 1] rfl, hD.sub (ws' := [(h, oX11 th aw ai ab ac hi re aP ta po en be de fa a5 sp av an ak ne aW aC ag aT aN aF), (aw, kcI cI 2179 fw)]) [0, 1] (by decide) rfl, hS, lv_sub (l' := [(3, .int 0), (2, .int mm), (0, .ref h), (1, .int mm)]) hl [0, 1, 2, 3] rfl⟩ (fun u H locs ls hI ih7647 => ?_)
  clear hP hD hS hl
  obtain ⟨y7645, y7646⟩ := u
  obtain ⟨hF1, hy7645, hP, hD, hS, hl⟩ := hI
  have hP : va_P D vwCl [(h, oX11 th aw ai ab ac hi re aP ta po en be de fa a5 sp av an ak ne aW aC ag aT aN aF), (aw, kcI cI 2179 fw)] H := hP
  have hD : va_D A [(h, oX11 th aw ai ab ac hi re aP ta po en be de fa a5 sp av an ak ne aW aC ag aT aN aF), (aw, kcI cI 2179 fw)] := hD
  have hl : lv_has ls 5 [(3, .int y7645), (2, .int y7646), (0, .ref h), (1, .int mm)] := hl
  refine lv_iload_n hx hb dX11_passed_4 rfl (lv_at hl 0 rfl) ?_
  refine lv_aload_n hx hb dX11_passed_5 rfl (lv_at hl 2 rfl) ?_
  refine kpurei (wc := [(h, oX11 th aw ai ab ac hi re aP ta po en be de fa a5 sp av an ak ne aW aC ag aT aN aF), (aw, kcI cI 2179 fw)]) hP hD hS hA [0, 1] rfl (by decide) (fun hPc hDc hFc => va_runV (As := []) (rest := [.int y7645]) ⟨hx, hb, hml, hown, hts⟩ (r_men l D cI cJ cB cC h th aw ai ab ac hi re aP ta po en be de fa a5 sp av an ak ne aW aC ag aT aN aF fw H.size H_fw_W) (cwV 0 hts gX11_passed_X11_men rfl rfl rfl ⟨rfl, hdX11_men⟩ ⟨Nat.le_of_ble_eq_true rfl, Nat.le_of_ble_eq_true rfl⟩) ⟨kBlind, va_recv hK hPc (ci := 10) (q0 := 0) rfl rfl, fun U hU hW => ⟨rfl, by rw [hU], hN.warm hW, hE.pass hS hFc hW hU, by rw [hU]; exact hPc, va_K.moved hW.alike hK, hDc⟩⟩ rfl rfl hl.1 rfl (lv_room (Nat.le_of_ble_eq_true rfl)) dX11_passed_6 ⟨Nat.le_of_ble_eq_true rfl, Nat.le_of_ble_eq_true rfl⟩) (fun r7648 u H locs hw hP hS => ?_)
  obtain ⟨k7649, k7650, k7651⟩ := hw
  refine lv_icmp_ge (tgt := 65) hx hb dX11_passed_9 (by decide) (fun c7652 => ?_) (fun c7652 => ?_)
  · skip
    refine lv_iload_n hx hb dX11_passed_65 rfl (lv_at hl 1 rfl) ?_
    have hP9 := hP.sub (ws' := [(h, oX11 th aw ai ab ac hi re aP ta po en be de fa a5 sp av an ak ne aW aC ag aT aN aF), (aw, kcI cI 2179 fw)]) [0, 1] rfl
    have hD9 := hD.sub (ws' := [(h, oX11 th aw ai ab ac hi re aP ta po en be de fa a5 sp av an ak ne aW aC ag aT aN aF), (aw, kcI cI 2179 fw)]) [0, 1] (by decide) rfl
    exact W.iret (v := y7646) hx hb hr (fun t ht hW => ⟨⟨y7646, (), rfl, (hF1.trans (kIter_out (kC_eq rfl (kLet_eq (k7651).symm (kif_t (leI c7652) rfl))))), by rw [ht]; exact hP9, va_K.moved hW.alike hK, hD9⟩, hS.F ht⟩) hS.2.2 dX11_passed_66
  · skip
    have k7653 : Rg y7645 0 9 := rg_l1 (nleI c7652) hy7645 k7650 (by decide)
    have k7654 : Rg r7648 1 10 := rg_l2 (nleI c7652) hy7645 k7650 (by decide)
    refine lv_iconst (v := 0) hx hb dX11_passed_12 (by decide) ?_
    refine lv_istore (lv' := [(4, .int 0), (3, .int y7645), (2, .int y7646), (0, .ref h), (1, .int mm)]) hx hb dX11_passed_13 hl (by decide) rfl (fun ls hl => ?_)
    refine k_loop (hd := 15) (fun (u : Int32 × Int32) => match u with | (y8094, y8095) => (10 - (y8094).toInt).toNat) (fun (u : Int32 × Int32) (H : Heap) (locs : List Loc) (ls : Array Slot) => match u with | (y8094, y8095) => (F_r_passed_l1_s (gT fw) mm.toInt (y7645.toInt, y7646.toInt) = F_r_passed_l2 (gT fw) mm.toInt y7645.toInt r7648.toInt (y8094.toInt, y8095.toInt)) ∧ Rg y8094 0 10 ∧ va_P D vwCl [(h, oX11 th aw ai ab ac hi re aP ta po en be de fa a5 sp av an ak ne aW aC ag aT aN aF), (aw, kcI cI 2179 fw)] H ∧ va_D A [(h, oX11 th aw ai ab ac hi re aP ta po en be de fa a5 sp av an ak ne aW aC ag aT aN aF), (aw, kcI cI 2179 fw)] ∧ va_S A s.heap H locs ∧ lv_has ls 5 [(4, .int y8094), (3, .int y7645), (2, .int y8095), (0, .ref h), (1, .int mm)]) ((0 : Int32), y7646) ⟨(kC_eq rfl (kLet_eq (k7651).symm (kif_f (xF_le c7652) rfl))), (rg_w (rg_lit (n := 0) (by decide)) (by decide)), hP.sub (ws' := [(h, oX11 th aw ai ab ac hi re aP ta po en be de fa a5 sp av an ak ne aW aC ag aT aN aF), (aw, kcI cI 2179 fw)]) [0, 1] rfl, hD.sub (ws' := [(h, oX11 th aw ai ab ac hi re aP ta po en be de fa a5 sp av an ak ne aW aC ag aT aN aF), (aw, kcI cI 2179 fw)]) [0, 1] (by decide) rfl, hS, lv_sub (l' := [(4, .int 0), (3, .int y7645), (2, .int y7646), (0, .ref h), (1, .int mm)]) hl [0, 1, 2, 3, 4] rfl⟩ (fun u H locs ls hI ih8096 => ?_)
    clear hP hD hS hl
    obtain ⟨y8094, y8095⟩ := u
    obtain ⟨hF2, hy8094, hP, hD, hS, hl⟩ := hI
    have hP : va_P D vwCl [(h, oX11 th aw ai ab ac hi re aP ta po en be de fa a5 sp av an ak ne aW aC ag aT aN aF), (aw, kcI cI 2179 fw)] H := hP
    have hD : va_D A [(h, oX11 th aw ai ab ac hi re aP ta po en be de fa a5 sp av an ak ne aW aC ag aT aN aF), (aw, kcI cI 2179 fw)] := hD
    have hl : lv_has ls 5 [(4, .int y8094), (3, .int y7645), (2, .int y8095), (0, .ref h), (1, .int mm)] := hl
    refine lv_iload hx hb dX11_passed_15 (lv_at hl 0 rfl) ?_
    refine lv_aload_n hx hb dX11_passed_17 rfl (lv_at hl 3 rfl) ?_
    refine kpurei (wc := [(h, oX11 th aw ai ab ac hi re aP ta po en be de fa a5 sp av an ak ne aW aC ag aT aN aF), (aw, kcI cI 2179 fw)]) hP hD hS hA [0, 1] rfl (by decide) (fun hPc hDc hFc => va_runV (As := []) (rest := [.int y8094]) ⟨hx, hb, hml, hown, hts⟩ (r_men l D cI cJ cB cC h th aw ai ab ac hi re aP ta po en be de fa a5 sp av an ak ne aW aC ag aT aN aF fw H.size H_fw_W) (cwV 0 hts gX11_passed_X11_men rfl rfl rfl ⟨rfl, hdX11_men⟩ ⟨Nat.le_of_ble_eq_true rfl, Nat.le_of_ble_eq_true rfl⟩) ⟨kBlind, va_recv hK hPc (ci := 10) (q0 := 0) rfl rfl, fun U hU hW => ⟨rfl, by rw [hU], hN.warm hW, hE.pass hS hFc hW hU, by rw [hU]; exact hPc, va_K.moved hW.alike hK, hDc⟩⟩ rfl rfl hl.1 rfl (lv_room (Nat.le_of_ble_eq_true rfl)) dX11_passed_18 ⟨Nat.le_of_ble_eq_true rfl, Nat.le_of_ble_eq_true rfl⟩) (fun r8097 u H locs hw hP hS => ?_)
    obtain ⟨k8098, k8099, k8100⟩ := hw
    obtain rfl : r7648 = r8097 := k7649.trans k8098.symm
    refine lv_icmp_ge (tgt := 59) hx hb dX11_passed_21 (by decide) (fun c8101 => ?_) (fun c8101 => ?_)
    · skip
      have k8102 : Rg y8094 1 10 := rg_e2 (leI c8101) k7654 hy8094 (by decide)
      obtain ⟨x8103, ex8103⟩ : ∃ y : Int32, y = y7645 + 1 := ⟨_, rfl⟩
      refine lv_iinc (v := x8103) (lv' := [(3, .int x8103), (4, .int y8094), (2, .int y8095), (0, .ref h), (1, .int mm)]) hx hb dX11_passed_59 hl (k := 1) rfl (by rw [ex8103]; rfl) (by decide) rfl (fun ls hl => ?_)
      have k8104 : Rg x8103 1 10 := rg_add ex8103 k7653 (rg_lit (n := 1) (by decide)) (by decide)
      refine lv_goto (tgt := 4) hx hb dX11_passed_62 (by decide) ?_
      exact ih7647 (x8103, y8095) _ _ _ (by show (10 - (x8103).toInt).toNat < (10 - (y7645).toInt).toNat; exact mu_up ex8103 k7653 k8104 (by decide)) ⟨(hF1.trans (kIter_go (hF2.trans (kIter_out (kC_eq rfl (kLet_eq (k8100).symm (kif_t (leI c8101) (kLet_eq (ti_add ex8103 k7653 (rg_lit (n := 1) (by decide)) (by decide) rfl rfl) rfl)))))))), (rg_w k8104 (by decide)), hP.sub (ws' := [(h, oX11 th aw ai ab ac hi re aP ta po en be de fa a5 sp av an ak ne aW aC ag aT aN aF), (aw, kcI cI 2179 fw)]) [0, 1] rfl, hD.sub (ws' := [(h, oX11 th aw ai ab ac hi re aP ta po en be de fa a5 sp av an ak ne aW aC ag aT aN aF), (aw, kcI cI 2179 fw)]) [0, 1] (by decide) rfl, hS, lv_sub (l' := [(3, .int x8103), (2, .int y8095), (0, .ref h), (1, .int mm)]) hl [0, 2, 3, 4] rfl⟩
    · skip
      have k8105 : Rg y8094 0 9 := rg_l1 (nleI c8101) hy8094 k7654 (by decide)
      refine lv_iload_n hx hb dX11_passed_24 rfl (lv_at hl 2 rfl) ?_
      refine lv_iload_n hx hb dX11_passed_25 rfl (lv_at hl 4 rfl) ?_
      refine lv_iload_n hx hb dX11_passed_26 rfl (lv_at hl 1 rfl) ?_
      refine kpurei (wc := []) hP hD hS hA [] rfl (by decide) (fun hPc hDc hFc => va_runS (As := [.int mm, .int y7645]) (rest := [.int y8095]) ⟨hx, hb, hml, hown, hts⟩ (r_has l D cI cJ cB cC mm y7645 H.size) (va_cwS 2 hts gX11_passed_X11_has rfl rfl rfl hdX11_has ⟨Nat.le_of_ble_eq_true rfl, Nat.le_of_ble_eq_true rfl⟩) ⟨kBlind, fun U hU hW => ⟨rfl, by rw [hU], hN.warm hW, hE.pass hS hFc hW hU, by rw [hU]; exact hPc, va_K.moved hW.alike hK, hDc⟩⟩ rfl rfl hl.1 rfl (lv_room (Nat.le_of_ble_eq_true rfl)) dX11_passed_27 ⟨Nat.le_of_ble_eq_true rfl, Nat.le_of_ble_eq_true rfl⟩) (fun r8106 u H locs hw hP hS => ?_)
      obtain ⟨k8107, k8108⟩ := hw
      refine k_join (hd := 51) (cells2 := 0) (slots2 := 0) (fun (u : Int32 × Int32) => match u with | (z8122, z8123) => [.int z8122, .int z8123]) (fun (u : Int32 × Int32) (H : Heap) (locs : List Loc) (ls : Array Slot) => match u with | (z8122, z8123) => (F_r_passed_l2_s (gT fw) mm.toInt y7645.toInt r7648.toInt (y8094.toInt, y8095.toInt) = F_r_passed_j3 y8094.toInt z8122.toInt z8123.toInt) ∧ Rg z8122 0 512 ∧ va_P D vwCl [(h, oX11 th aw ai ab ac hi re aP ta po en be de fa a5 sp av an ak ne aW aC ag aT aN aF), (aw, kcI cI 2179 fw)] H ∧ va_D A [(h, oX11 th aw ai ab ac hi re aP ta po en be de fa a5 sp av an ak ne aW aC ag aT aN aF), (aw, kcI cI 2179 fw)] ∧ va_S A s.heap H locs ∧ lv_has ls 5 [(4, .int y8094), (3, .int y7645), (2, .int y8095), (0, .ref h), (1, .int mm)]) (fun u H locs ls hI => ?_) (fun hJ51 => ?_)
      · skip
        clear hP hD hS hl
        obtain ⟨z8122, z8123⟩ := u
        obtain ⟨hF3, hz8122, hP, hD, hS, hl⟩ := hI
        have hP : va_P D vwCl [(h, oX11 th aw ai ab ac hi re aP ta po en be de fa a5 sp av an ak ne aW aC ag aT aN aF), (aw, kcI cI 2179 fw)] H := hP
        have hD : va_D A [(h, oX11 th aw ai ab ac hi re aP ta po en be de fa a5 sp av an ak ne aW aC ag aT aN aF), (aw, kcI cI 2179 fw)] := hD
        have hl : lv_has ls 5 [(4, .int y8094), (3, .int y7645), (2, .int y8095), (0, .ref h), (1, .int mm)] := hl
        show W _ _ _ _ _ _ _ _ _ _ _ _ _ _ _ (F0 m 51 ls [.int z8122, .int z8123])
        refine lv_ior hx hb dX11_passed_51 ?_
        refine lv_topi (fun x8124 ex8124 => ?_)
        refine lv_istore_n (lv' := [(2, .int x8124), (4, .int y8094), (3, .int y7645), (0, .ref h), (1, .int mm)]) hx hb dX11_passed_52 rfl hl (by decide) rfl (fun ls hl => ?_)
        obtain ⟨x8125, ex8125⟩ : ∃ y : Int32, y = y8094 + 1 := ⟨_, rfl⟩
        refine lv_iinc (v := x8125) (lv' := [(4, .int x8125), (2, .int x8124), (3, .int y7645), (0, .ref h), (1, .int mm)]) hx hb dX11_passed_53 hl (k := 1) rfl (by rw [ex8125]; rfl) (by decide) rfl (fun ls hl => ?_)
        have k8126 : Rg x8125 1 10 := rg_add ex8125 k8105 (rg_lit (n := 1) (by decide)) (by decide)
        refine lv_goto (tgt := 15) hx hb dX11_passed_56 (by decide) ?_
        exact ih8096 (x8125, x8124) _ _ _ (by show (10 - (x8125).toInt).toNat < (10 - (y8094).toInt).toNat; exact mu_up ex8125 k8105 k8126 (by decide)) ⟨(hF2.trans (kIter_go (hF3.trans (kLet_eq (ke_or ex8124) (kLet_eq (ti_add ex8125 k8105 (rg_lit (n := 1) (by decide)) (by decide) rfl rfl) rfl))))), (rg_w k8126 (by decide)), hP.sub (ws' := [(h, oX11 th aw ai ab ac hi re aP ta po en be de fa a5 sp av an ak ne aW aC ag aT aN aF), (aw, kcI cI 2179 fw)]) [0, 1] rfl, hD.sub (ws' := [(h, oX11 th aw ai ab ac hi re aP ta po en be de fa a5 sp av an ak ne aW aC ag aT aN aF), (aw, kcI cI 2179 fw)]) [0, 1] (by decide) rfl, hS, lv_sub (l' := [(4, .int x8125), (3, .int y7645), (2, .int x8124), (0, .ref h), (1, .int mm)]) hl [0, 2, 1, 3, 4] rfl⟩
      refine k_join (hd := 50) (cells2 := 0) (slots2 := 0) (fun (z8127 : Int32) => [.int z8127]) (fun (z8127 : Int32) (H : Heap) (locs : List Loc) (ls : Array Slot) => (F_r_passed_l2_s (gT fw) mm.toInt y7645.toInt r7648.toInt (y8094.toInt, y8095.toInt) = F_r_passed_j4 y8094.toInt z8127.toInt) ∧ va_P D vwCl [(h, oX11 th aw ai ab ac hi re aP ta po en be de fa a5 sp av an ak ne aW aC ag aT aN aF), (aw, kcI cI 2179 fw)] H ∧ va_D A [(h, oX11 th aw ai ab ac hi re aP ta po en be de fa a5 sp av an ak ne aW aC ag aT aN aF), (aw, kcI cI 2179 fw)] ∧ va_S A s.heap H locs ∧ lv_has ls 5 [(4, .int y8094), (3, .int y7645), (2, .int y8095), (0, .ref h), (1, .int mm)]) (fun u H locs ls hI => ?_) (fun hJ50 => ?_)
      · skip
        clear hP hD hS hl
        obtain ⟨z8127, rfl⟩ : ∃ z, z = u := ⟨_, rfl⟩
        obtain ⟨hF4, hP, hD, hS, hl⟩ := hI
        have hP : va_P D vwCl [(h, oX11 th aw ai ab ac hi re aP ta po en be de fa a5 sp av an ak ne aW aC ag aT aN aF), (aw, kcI cI 2179 fw)] H := hP
        have hD : va_D A [(h, oX11 th aw ai ab ac hi re aP ta po en be de fa a5 sp av an ak ne aW aC ag aT aN aF), (aw, kcI cI 2179 fw)] := hD
        have hl : lv_has ls 5 [(4, .int y8094), (3, .int y7645), (2, .int y8095), (0, .ref h), (1, .int mm)] := hl
        show W _ _ _ _ _ _ _ _ _ _ _ _ _ _ _ (F0 m 50 ls [.int z8127])
        refine lv_iconst (v := 0) hx hb dX11_passed_50 (by decide) ?_
        exact hJ51 ((0 : Int32), z8127) _ _ _ ⟨(hF4.trans rfl), (rg_w (rg_lit (n := 0) (by decide)) (by decide)), hP.sub (ws' := [(h, oX11 th aw ai ab ac hi re aP ta po en be de fa a5 sp av an ak ne aW aC ag aT aN aF), (aw, kcI cI 2179 fw)]) [0, 1] rfl, hD.sub (ws' := [(h, oX11 th aw ai ab ac hi re aP ta po en be de fa a5 sp av an ak ne aW aC ag aT aN aF), (aw, kcI cI 2179 fw)]) [0, 1] (by decide) rfl, hS, lv_sub (l' := [(4, .int y8094), (3, .int y7645), (2, .int y8095), (0, .ref h), (1, .int mm)]) hl [0, 1, 2, 3, 4] rfl⟩
      refine lv_if_eq (tgt := 50) hx hb dX11_passed_30 (by decide) (fun c8128 => ?_) (fun c8128 => ?_)
      · skip
        have k8129 : Rg r8106 0 0 := rg_q1 (eqI c8128) k8107 (rg_lit (n := 0) (by decide)) (by decide)
        exact hJ50 (y8095) _ _ _ ⟨(kC_eq rfl (kLet_eq (k8100).symm (kif_f (xF_le c8101) (kLet_eq (k8108).symm (kif_t (eqI c8128) rfl))))), hP.sub (ws' := [(h, oX11 th aw ai ab ac hi re aP ta po en be de fa a5 sp av an ak ne aW aC ag aT aN aF), (aw, kcI cI 2179 fw)]) [0, 1] rfl, hD.sub (ws' := [(h, oX11 th aw ai ab ac hi re aP ta po en be de fa a5 sp av an ak ne aW aC ag aT aN aF), (aw, kcI cI 2179 fw)]) [0, 1] (by decide) rfl, hS, lv_sub (l' := [(4, .int y8094), (3, .int y7645), (2, .int y8095), (0, .ref h), (1, .int mm)]) hl [0, 1, 2, 3, 4] rfl⟩
      · skip
        have k8130 : Rg r8106 1 1 := rg_n1 (neI c8128) k8107 (rg_lit (n := 0) (by decide)) (by decide)
        refine lv_aload_n hx hb dX11_passed_33 rfl (lv_at hl 3 rfl) ?_
        refine lv_iload_n hx hb dX11_passed_34 rfl (lv_at hl 1 rfl) ?_
        refine lv_iload hx hb dX11_passed_35 (lv_at hl 0 rfl) ?_
        refine kpurei (wc := [(h, oX11 th aw ai ab ac hi re aP ta po en be de fa a5 sp av an ak ne aW aC ag aT aN aF), (aw, kcI cI 2179 fw)]) hP hD hS hA [0, 1] rfl (by decide) (fun hPc hDc hFc => va_runV (As := [.int y7645, .int y8094]) (rest := [.int y8095]) ⟨hx, hb, hml, hown, hts⟩ (r_isNeighbour l D cI cJ cB cC h th aw ai ab ac hi re aP ta po en be de fa a5 sp av an ak ne aW aC ag aT aN aF fw y7645 y8094 H.size k7653 k8105 H_fw_W) (cwV 2 hts gX11_passed_X11_isNeighbour rfl rfl rfl ⟨rfl, hdX11_isNeighbour⟩ ⟨Nat.le_of_ble_eq_true rfl, Nat.le_of_ble_eq_true rfl⟩) ⟨kBlind, va_recv hK hPc (ci := 10) (q0 := 0) rfl rfl, fun U hU hW => ⟨rfl, by rw [hU], hN.warm hW, hE.pass hS hFc hW hU, by rw [hU]; exact hPc, va_K.moved hW.alike hK, hDc⟩⟩ rfl rfl hl.1 rfl (lv_room (Nat.le_of_ble_eq_true rfl)) dX11_passed_37 ⟨Nat.le_of_ble_eq_true rfl, Nat.le_of_ble_eq_true rfl⟩) (fun r8131 u H locs hw hP hS => ?_)
        obtain ⟨k8132, hw⟩ := hw
        rcases hw with rfl | rfl
        · skip
          refine lv_if_eq (tgt := 50) hx hb dX11_passed_40 (by decide) (fun _ => ?_) (fun c8134 => absurd (by decide) c8134)
          exact hJ50 (y8095) _ _ _ ⟨(kC_eq rfl (kLet_eq (k8100).symm (kif_f (xF_le c8101) (kLet_eq (k8108).symm (kif_f (neI c8128) (kLet_eq (k8132).symm (kif_t rfl rfl))))))), hP.sub (ws' := [(h, oX11 th aw ai ab ac hi re aP ta po en be de fa a5 sp av an ak ne aW aC ag aT aN aF), (aw, kcI cI 2179 fw)]) [0, 1] rfl, hD.sub (ws' := [(h, oX11 th aw ai ab ac hi re aP ta po en be de fa a5 sp av an ak ne aW aC ag aT aN aF), (aw, kcI cI 2179 fw)]) [0, 1] (by decide) rfl, hS, lv_sub (l' := [(4, .int y8094), (3, .int y7645), (2, .int y8095), (0, .ref h), (1, .int mm)]) hl [0, 1, 2, 3, 4] rfl⟩
        · skip
          refine lv_if_eq (tgt := 50) hx hb dX11_passed_40 (by decide) (fun c8135 => absurd c8135 (by decide)) (fun _ => ?_)
          refine lv_iconst (v := 1) hx hb dX11_passed_43 (by decide) ?_
          refine lv_iload hx hb dX11_passed_44 (lv_at hl 0 rfl) ?_
          refine lv_ishl hx hb dX11_passed_46 ?_
          refine lv_topi (fun x8136 ex8136 => ?_)
          have k8137 : Rg x8136 1 512 := rg_shl1 9 ex8136 k8105 (by decide)
          refine lv_goto (tgt := 51) hx hb dX11_passed_47 (by decide) ?_
          exact hJ51 (x8136, y8095) _ _ _ ⟨(kC_eq rfl (kLet_eq (k8100).symm (kif_f (xF_le c8101) (kLet_eq (k8108).symm (kif_f (neI c8128) (kLet_eq (k8132).symm (kif_f (by decide) (kLet_eq (ke_shl ex8136) rfl)))))))), (rg_w k8137 (by decide)), hP.sub (ws' := [(h, oX11 th aw ai ab ac hi re aP ta po en be de fa a5 sp av an ak ne aW aC ag aT aN aF), (aw, kcI cI 2179 fw)]) [0, 1] rfl, hD.sub (ws' := [(h, oX11 th aw ai ab ac hi re aP ta po en be de fa a5 sp av an ak ne aW aC ag aT aN aF), (aw, kcI cI 2179 fw)]) [0, 1] (by decide) rfl, hS, lv_sub (l' := [(4, .int y8094), (3, .int y7645), (2, .int y8095), (0, .ref h), (1, .int mm)]) hl [0, 1, 2, 3, 4] rfl⟩

