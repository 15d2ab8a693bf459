def kwX11_factOf : List Cond := .code yX11_factOf cX11_factOf 5 (some .int) :: kG
theorem hdX11_factOf : yX11_factOf.cls ≠ "java/lang/invoke/MethodHandle" ∧ yX11_factOf.cls ≠ "java/lang/invoke/VarHandle" ∧ (parseMethodDescriptor yX11_factOf.desc).map (fun d => d.parameters.length) = some 4 := by decide +kernel
theorem gX11_factOf_X11_isNextToLast : GoodIn kG (wsV RX11 270 RX11 yX11_isNextToLast kwX11_isNextToLast) := gK w30_11 (gK w30_12 (gK w30_13 (gK w0_5 (gK w30_14 gGG))))
theorem gX11_factOf_X11_of : GoodIn kG (wsV RX11 156 RX11 yX11_of kwX11_of) := gK w21_9 (gK w21_10 (gK w21_11 (gK w0_5 (gK w21_12 gGG))))
theorem gX11_factOf_X11_ofMan : GoodIn kG (wsV RX11 153 RX11 yX11_ofMan kwX11_ofMan) := gK w21_5 (gK w21_6 (gK w21_7 (gK w0_5 (gK w21_8 gGG))))
theorem dX11_factOf_0 : decode cX11_factOf 0 = .ok (.iload_n 1, 1) := by decide +kernel
theorem dX11_factOf_1 : decode cX11_factOf 1 = .ok (.iconst 4, 1) := by decide +kernel
theorem dX11_factOf_2 : decode cX11_factOf 2 = .ok (.if_icmp .gt 11, 3) := by decide +kernel
theorem dX11_factOf_5 : decode cX11_factOf 5 = .ok (.aload_n 0, 1) := by decide +kernel
theorem dX11_factOf_6 : decode cX11_factOf 6 = .ok (.iload 4, 2) := by decide +kernel
theorem dX11_factOf_8 : decode cX11_factOf 8 = .ok (.iload_n 1, 1) := by decide +kernel
theorem dX11_factOf_9 : decode cX11_factOf 9 = .ok (.invokevirtual 156, 3) := by decide +kernel
theorem dX11_factOf_12 : decode cX11_factOf 12 = .ok (.ireturn, 1) := by decide +kernel
theorem dX11_factOf_13 : decode cX11_factOf 13 = .ok (.iload_n 1, 1) := by decide +kernel
theorem dX11_factOf_14 : decode cX11_factOf 14 = .ok (.tableswitch 126 5 11 #[42, 49, 56, 63, 70, 88, 104], 42) := by decide +kernel
theorem dX11_factOf_56 : decode cX11_factOf 56 = .ok (.aload_n 0, 1) := by decide +kernel
theorem dX11_factOf_57 : decode cX11_factOf 57 = .ok (.iload_n 3, 1) := by decide +kernel
theorem dX11_factOf_58 : decode cX11_factOf 58 = .ok (.iconst 1, 1) := by decide +kernel
theorem dX11_factOf_59 : decode cX11_factOf 59 = .ok (.invokevirtual 153, 3) := by decide +kernel
theorem dX11_factOf_62 : decode cX11_factOf 62 = .ok (.ireturn, 1) := by decide +kernel
theorem dX11_factOf_63 : decode cX11_factOf 63 = .ok (.aload_n 0, 1) := by decide +kernel
theorem dX11_factOf_64 : decode cX11_factOf 64 = .ok (.iload_n 3, 1) := by decide +kernel
theorem dX11_factOf_65 : decode cX11_factOf 65 = .ok (.iconst 0, 1) := by decide +kernel
theorem dX11_factOf_66 : decode cX11_factOf 66 = .ok (.invokevirtual 153, 3) := by decide +kernel
theorem dX11_factOf_69 : decode cX11_factOf 69 = .ok (.ireturn, 1) := by decide +kernel
theorem dX11_factOf_70 : decode cX11_factOf 70 = .ok (.aload_n 0, 1) := by decide +kernel
theorem dX11_factOf_71 : decode cX11_factOf 71 = .ok (.iload_n 3, 1) := by decide +kernel
theorem dX11_factOf_72 : decode cX11_factOf 72 = .ok (.iconst 2, 1) := by decide +kernel
theorem dX11_factOf_73 : decode cX11_factOf 73 = .ok (.invokevirtual 153, 3) := by decide +kernel
theorem dX11_factOf_76 : decode cX11_factOf 76 = .ok (.ireturn, 1) := by decide +kernel
theorem dX11_factOf_77 : decode cX11_factOf 77 = .ok (.aload_n 0, 1) := by decide +kernel
theorem dX11_factOf_78 : decode cX11_factOf 78 = .ok (.getfield 13, 3) := by decide +kernel
theorem dX11_factOf_81 : decode cX11_factOf 81 = .ok (.iconst 5, 1) := by decide +kernel
theorem dX11_factOf_82 : decode cX11_factOf 82 = .ok (.iaload, 1) := by decide +kernel
theorem dX11_factOf_83 : decode cX11_factOf 83 = .ok (.ireturn, 1) := by decide +kernel
theorem dX11_factOf_84 : decode cX11_factOf 84 = .ok (.aload_n 0, 1) := by decide +kernel
theorem dX11_factOf_85 : decode cX11_factOf 85 = .ok (.iload 4, 2) := by decide +kernel
theorem dX11_factOf_87 : decode cX11_factOf 87 = .ok (.bipush 6, 2) := by decide +kernel
theorem dX11_factOf_89 : decode cX11_factOf 89 = .ok (.invokevirtual 156, 3) := by decide +kernel
theorem dX11_factOf_92 : decode cX11_factOf 92 = .ok (.iload_n 3, 1) := by decide +kernel
theorem dX11_factOf_93 : decode cX11_factOf 93 = .ok (.if_icmp .ne 7, 3) := by decide +kernel
theorem dX11_factOf_96 : decode cX11_factOf 96 = .ok (.iconst 1, 1) := by decide +kernel
theorem dX11_factOf_97 : decode cX11_factOf 97 = .ok (.goto 4, 3) := by decide +kernel
theorem dX11_factOf_100 : decode cX11_factOf 100 = .ok (.iconst 0, 1) := by decide +kernel
theorem dX11_factOf_101 : decode cX11_factOf 101 = .ok (.ireturn, 1) := by decide +kernel
theorem dX11_factOf_102 : decode cX11_factOf 102 = .ok (.aload_n 0, 1) := by decide +kernel
theorem dX11_factOf_103 : decode cX11_factOf 103 = .ok (.iload_n 3, 1) := by decide +kernel
theorem dX11_factOf_104 : decode cX11_factOf 104 = .ok (.iload 4, 2) := by decide +kernel
theorem dX11_factOf_106 : decode cX11_factOf 106 = .ok (.invokevirtual 270, 3) := by decide +kernel
theorem dX11_factOf_109 : decode cX11_factOf 109 = .ok (.ifCond .eq 7, 3) := by decide +kernel
theorem dX11_factOf_112 : decode cX11_factOf 112 = .ok (.iconst 1, 1) := by decide +kernel
theorem dX11_factOf_113 : decode cX11_factOf 113 = .ok (.goto 4, 3) := by decide +kernel
theorem dX11_factOf_116 : decode cX11_factOf 116 = .ok (.iconst 0, 1) := by decide +kernel
theorem dX11_factOf_117 : decode cX11_factOf 117 = .ok (.ireturn, 1) := by decide +kernel
theorem dX11_factOf_118 : decode cX11_factOf 118 = .ok (.aload_n 0, 1) := by decide +kernel
theorem dX11_factOf_119 : decode cX11_factOf 119 = .ok (.iload 4, 2) := by decide +kernel
theorem dX11_factOf_121 : decode cX11_factOf 121 = .ok (.iconst 0, 1) := by decide +kernel
theorem dX11_factOf_122 : decode cX11_factOf 122 = .ok (.invokevirtual 156, 3) := by decide +kernel
theorem dX11_factOf_125 : decode cX11_factOf 125 = .ok (.aload_n 0, 1) := by decide +kernel
theorem dX11_factOf_126 : decode cX11_factOf 126 = .ok (.iload_n 3, 1) := by decide +kernel
theorem dX11_factOf_127 : decode cX11_factOf 127 = .ok (.iconst 3, 1) := by decide +kernel
theorem dX11_factOf_128 : decode cX11_factOf 128 = .ok (.invokevirtual 153, 3) := by decide +kernel
theorem dX11_factOf_131 : decode cX11_factOf 131 = .ok (.if_icmp .ne 7, 3) := by decide +kernel
theorem dX11_factOf_134 : decode cX11_factOf 134 = .ok (.iconst 1, 1) := by decide +kernel
theorem dX11_factOf_135 : decode cX11_factOf 135 = .ok (.goto 4, 3) := by decide +kernel
theorem dX11_factOf_138 : decode cX11_factOf 138 = .ok (.iconst 0, 1) := by decide +kernel
theorem dX11_factOf_139 : decode cX11_factOf 139 = .ok (.ireturn, 1) := by decide +kernel
theorem dX11_factOf_140 : decode cX11_factOf 140 = .ok (.iload_n 2, 1) := by decide +kernel
theorem dX11_factOf_141 : decode cX11_factOf 141 = .ok (.ireturn, 1) := by decide +kernel
set_option maxHeartbeats 4000000 in
set_option maxRecDepth 100000 in
/-- reference: factOf -/
theorem r_factOf (l : Launch) (D : va_G) (cI cJ cB cC : ClassId) (h : Nat) (th : Int32) (aw : Nat) (ai : Nat) (ab : Nat) (ac : Nat) (hi : Int32) (re : Int32) (aP : Nat) (ta : Int32) (po : Int32) (en : Int32) (be : Int32) (de : Int32) (fa : Int32) (a5 : Nat) (sp : Int32) (av : Nat) (an : Nat) (ak : Nat) (ne : Int32) (aW : Nat) (aC : Nat) (ag : Nat) (aT : Nat) (aN : Nat) (aF : Nat) (fw : Nat → Int32) (st : Int32) (n : Int32) (mm : Int32) (b : Int32) (sz : Nat) (H_mm : Rg mm 0 9) (H_b : Rg b 0 11) (H_st : Rg st 0 12) (H_fw_W : wW fw) : Met l yX11_factOf kwX11_factOf ({ frames := 3, cells := 0, slots := 0, locals := 66 } : Room) (kPre D (kT cI cJ cB cC) sz [(h, oX11 th aw ai ab ac hi re aP ta po en be de fa a5 sp av an ak ne aW aC ag aT aN aF), (aw, kcI cI 2179 fw)] [.ref h, .int st, .int n, .int mm, .int b]) (va_Qi (fun (r : Int32) (_ : Unit) => F_r_factOf (gT fw) (st : Int32).toInt (n : Int32).toInt (mm : Int32).toInt (b : Int32).toInt = ((r : Int32).toInt)) (fun (_ : Unit) (t : State) => kB D (kT cI cJ cB cC) (va_A [(h, oX11 th aw ai ab ac hi re aP ta po en be de fa a5 sp av an ak ne aW aC ag aT aN aF), (aw, kcI cI 2179 fw)] sz) [(h, oX11 th aw ai ab ac hi re aP ta po en be de fa a5 sp av an ak ne aW aC ag aT aN aF), (aw, kcI cI 2179 fw)] t) (va_A [(h, oX11 th aw ai ab ac hi re aP ta po en be de fa a5 sp av an ak ne aW aC ag aT aN aF), (aw, kcI cI 2179 fw)] sz)) 0 0 (va_A [(h, oX11 th aw ai ab ac hi re aP ta po en be de fa a5 sp av an ak ne aW aC ag aT aN aF), (aw, kcI cI 2179 fw)] sz) := by
  refine Met.ofW (cc := cX11_factOf) (maxL := 5) (ret := (some .int)) (by decide) rfl ?_
  intro p e s m args below meth c s₁ B hml hv
  obtain ⟨rfl, hsz, hN, hE, hP, hK, hD0⟩ := hv
  have hx := B.exec
  have hb := B.bytes
  have hr := B.returns
  have hts := fun (w : Cond) (h : w ∈ kG) => atoms_spec (ws := kwX11_factOf) B.pre w (List.mem_cons_of_mem _ h)
  have hown : s.vm.findClass RX11 = some m.cls := findClass_of_methodNamed B.named
  subst hsz
  have hD := hD0.self (sz := s.heap.size)
  generalize hAe : va_A [(h, oX11 th aw ai ab ac hi re aP ta po en be de fa a5 sp av an ak ne aW aC ag aT aN aF), (aw, kcI cI 2179 fw)] s.heap.size = A at hD hE ⊢
  have hA : ∀ q : Nat, s.heap.size ≤ q → A q := fun q h => by rw [← hAe]; exact Or.inr h
  have hl := lv_entry ([.ref h, .int st, .int n, .int mm, .int b]) (n := 5) (Nat.le_of_ble_eq_true rfl)
  rw [lg_entry_eq]
  generalize (lg_sl ([.ref h, .int st, .int n, .int mm, .int b]) ++ List.replicate (5 - (lg_sl ([.ref h, .int st, .int n, .int mm, .int b])).length) Slot.unset).toArray = ls at hl ⊢
  have hl : lv_has ls 5 [(0, .ref h), (1, .int st), (2, .int n), (3, .int mm), (4, .int b)] := hl
  obtain ⟨H, hH0⟩ : ∃ H, H = s.heap := ⟨_, rfl⟩
  have hS : va_S A s.heap H [] := by rw [hH0]; exact va_S.rf
  have hP : va_P D vwCl [(h, oX11 th aw ai ab ac hi re aP ta po en be de fa a5 sp av an ak ne aW aC ag aT aN aF), (aw, kcI cI 2179 fw)] H := by rw [hH0]; exact hP
  refine kHeap hH0 ?_
  clear hH0
  refine lv_iload_n hx hb dX11_factOf_0 rfl (lv_at hl 1 rfl) ?_
  refine lv_iconst (v := 4) hx hb dX11_factOf_1 (by decide) ?_
  refine lv_icmp_gt (tgt := 13) hx hb dX11_factOf_2 (by decide) (fun c1 => ?_) (fun c1 => ?_)
  · skip
    have k2 : Rg st 5 12 := rg_l2 (ltI c1) (rg_lit (n := 4) (by decide)) H_st (by decide)
    refine lv_iload_n hx hb dX11_factOf_13 rfl (lv_at hl 1 rfl) ?_
    by_cases c3 : st.toInt < 5 ∨ 11 < st.toInt
    · skip
      refine lv_tableOut (tgt := 140) hx hb dX11_factOf_14 c3 (by decide) ?_
      refine lv_iload_n hx hb dX11_factOf_140 rfl (lv_at hl 2 rfl) ?_
      have hP9 := hP.sub (ws' := [(h, oX11 th aw ai ab ac hi re aP ta po en be de fa a5 sp av an ak ne aW aC ag aT aN aF), (aw, kcI cI 2179 fw)]) [0, 1] rfl
      have hD9 := hD.sub (ws' := [(h, oX11 th aw ai ab ac hi re aP ta po en be de fa a5 sp av an ak ne aW aC ag aT aN aF), (aw, kcI cI 2179 fw)]) [0, 1] (by decide) rfl
      exact W.iret (v := n) hx hb hr (fun t ht hW => ⟨⟨n, (), rfl, (kif_t (ltI c1) (kif_t c3 rfl)), by rw [ht]; exact hP9, va_K.moved hW.alike hK, hD9⟩, hS.F ht⟩) hS.2.2 dX11_factOf_141
    · skip
      have k4 : Rg st 5 11 := rg_tab c3 k2 (by decide)
      rcases (show st.toInt = 5 ∨ st.toInt = 6 ∨ st.toInt = 7 ∨ st.toInt = 8 ∨ st.toInt = 9 ∨ st.toInt = 10 ∨ st.toInt = 11 by have q := k4; unfold Rg at q; omega) with c5 | c5 | c5 | c5 | c5 | c5 | c5
      · skip
        refine lv_tableIn (tgt := 56) (off := 42) hx hb dX11_factOf_14 (by rw [c5]; decide) (by rw [c5]; decide) (by rw [c5]; rfl) (by decide) ?_
        have k6 : Rg st 5 5 := rg_toI c5
        refine lv_aload_n hx hb dX11_factOf_56 rfl (lv_at hl 0 rfl) ?_
        refine lv_iload_n hx hb dX11_factOf_57 rfl (lv_at hl 3 rfl) ?_
        refine lv_iconst (v := 1) hx hb dX11_factOf_58 (by decide) ?_
        refine kpurei (wc := [(h, oX11 th aw ai ab ac hi re aP ta po en be de fa a5 sp av an ak ne aW aC ag aT aN aF), (aw, kcI cI 2179 fw)]) hP hD hS hA [0, 1] rfl (by decide) (fun hPc hDc hFc => va_runV (As := [.int mm, .int 1]) (rest := []) ⟨hx, hb, hml, hown, hts⟩ (r_ofMan1 l D cI cJ cB cC h th aw ai ab ac hi re aP ta po en be de fa a5 sp av an ak ne aW aC ag aT aN aF fw mm H.size H_mm H_fw_W) (cwV 2 hts gX11_factOf_X11_ofMan rfl rfl rfl ⟨rfl, hdX11_ofMan⟩ ⟨Nat.le_of_ble_eq_true rfl, Nat.le_of_ble_eq_true rfl⟩) ⟨kBlind, va_recv hK hPc (ci := 10) (q0 := 0) rfl rfl, fun U hU hW => ⟨rfl, by rw [hU], hN.warm hW, hE.pass hS hFc hW hU, by rw [hU]; exact hPc, va_K.moved hW.alike hK, hDc⟩⟩ rfl rfl hl.1 rfl (lv_room (Nat.le_of_ble_eq_true rfl)) dX11_factOf_59 ⟨Nat.le_of_ble_eq_true rfl, Nat.le_of_ble_eq_true rfl⟩) (fun r7 u H locs hw hP hS => ?_)
        obtain ⟨k8, k9⟩ := hw
        have hP9 := hP.sub (ws' := [(h, oX11 th aw ai ab ac hi re aP ta po en be de fa a5 sp av an ak ne aW aC ag aT aN aF), (aw, kcI cI 2179 fw)]) [0, 1] rfl
        have hD9 := hD.sub (ws' := [(h, oX11 th aw ai ab ac hi re aP ta po en be de fa a5 sp av an ak ne aW aC ag aT aN aF), (aw, kcI cI 2179 fw)]) [0, 1] (by decide) rfl
        exact W.iret (v := r7) hx hb hr (fun t ht hW => ⟨⟨r7, (), rfl, (kif_t (ltI c1) (kif_f c3 (kif_t c5 (kLet_eq (k9).symm rfl)))), by rw [ht]; exact hP9, va_K.moved hW.alike hK, hD9⟩, hS.F ht⟩) hS.2.2 dX11_factOf_62
      · skip
        refine lv_tableIn (tgt := 63) (off := 49) hx hb dX11_factOf_14 (by rw [c5]; decide) (by rw [c5]; decide) (by rw [c5]; rfl) (by decide) ?_
        have k10 : Rg st 6 6 := rg_toI c5
        refine lv_aload_n hx hb dX11_factOf_63 rfl (lv_at hl 0 rfl) ?_
        refine lv_iload_n hx hb dX11_factOf_64 rfl (lv_at hl 3 rfl) ?_
        refine lv_iconst (v := 0) hx hb dX11_factOf_65 (by decide) ?_
        refine kpurei (wc := [(h, oX11 th aw ai ab ac hi re aP ta po en be de fa a5 sp av an ak ne aW aC ag aT aN aF), (aw, kcI cI 2179 fw)]) hP hD hS hA [0, 1] rfl (by decide) (fun hPc hDc hFc => va_runV (As := [.int mm, .int 0]) (rest := []) ⟨hx, hb, hml, hown, hts⟩ (r_ofMan0 l D cI cJ cB cC h th aw ai ab ac hi re aP ta po en be de fa a5 sp av an ak ne aW aC ag aT aN aF fw mm H.size H_mm H_fw_W) (cwV 2 hts gX11_factOf_X11_ofMan rfl rfl rfl ⟨rfl, hdX11_ofMan⟩ ⟨Nat.le_of_ble_eq_true rfl, Nat.le_of_ble_eq_true rfl⟩) ⟨kBlind, va_recv hK hPc (ci := 10) (q0 := 0) rfl rfl, fun U hU hW => ⟨rfl, by rw [hU], hN.warm hW, hE.pass hS hFc hW hU, by rw [hU]; exact hPc, va_K.moved hW.alike hK, hDc⟩⟩ rfl rfl hl.1 rfl (lv_room (Nat.le_of_ble_eq_true rfl)) dX11_factOf_66 ⟨Nat.le_of_ble_eq_true rfl, Nat.le_of_ble_eq_true rfl⟩) (fun r11 u H locs hw hP hS => ?_)
        obtain ⟨k12, k13⟩ := hw
        have hP9 := hP.sub (ws' := [(h, oX11 th aw ai ab ac hi re aP ta po en be de fa a5 sp av an ak ne aW aC ag aT aN aF), (aw, kcI cI 2179 fw)]) [0, 1] rfl
        have hD9 := hD.sub (ws' := [(h, oX11 th aw ai ab ac hi re aP ta po en be de fa a5 sp av an ak ne aW aC ag aT aN aF), (aw, kcI cI 2179 fw)]) [0, 1] (by decide) rfl
        exact W.iret (v := r11) hx hb hr (fun t ht hW => ⟨⟨r11, (), rfl, (kif_t (ltI c1) (kif_f c3 (kif_f (fun q9 => absurd (c5.symm.trans q9) (by decide)) (kif_t c5 (kLet_eq (k13).symm rfl))))), by rw [ht]; exact hP9, va_K.moved hW.alike hK, hD9⟩, hS.F ht⟩) hS.2.2 dX11_factOf_69
      · skip
        refine lv_tableIn (tgt := 70) (off := 56) hx hb dX11_factOf_14 (by rw [c5]; decide) (by rw [c5]; decide) (by rw [c5]; rfl) (by decide) ?_
        have k14 : Rg st 7 7 := rg_toI c5
        refine lv_aload_n hx hb dX11_factOf_70 rfl (lv_at hl 0 rfl) ?_
        refine lv_iload_n hx hb dX11_factOf_71 rfl (lv_at hl 3 rfl) ?_
        refine lv_iconst (v := 2) hx hb dX11_factOf_72 (by decide) ?_
        refine kpurei (wc := [(h, oX11 th aw ai ab ac hi re aP ta po en be de fa a5 sp av an ak ne aW aC ag aT aN aF), (aw, kcI cI 2179 fw)]) hP hD hS hA [0, 1] rfl (by decide) (fun hPc hDc hFc => va_runV (As := [.int mm, .int 2]) (rest := []) ⟨hx, hb, hml, hown, hts⟩ (r_ofMan2 l D cI cJ cB cC h th aw ai ab ac hi re aP ta po en be de fa a5 sp av an ak ne aW aC ag aT aN aF fw mm H.size H_mm H_fw_W) (cwV 2 hts gX11_factOf_X11_ofMan rfl rfl rfl ⟨rfl, hdX11_ofMan⟩ ⟨Nat.le_of_ble_eq_true rfl, Nat.le_of_ble_eq_true rfl⟩) ⟨kBlind, va_recv hK hPc (ci := 10) (q0 := 0) rfl rfl, fun U hU hW => ⟨rfl, by rw [hU], hN.warm hW, hE.pass hS hFc hW hU, by rw [hU]; exact hPc, va_K.moved hW.alike hK, hDc⟩⟩ rfl rfl hl.1 rfl (lv_room (Nat.le_of_ble_eq_true rfl)) dX11_factOf_73 ⟨Nat.le_of_ble_eq_true rfl, Nat.le_of_ble_eq_true rfl⟩) (fun r15 u H locs hw hP hS => ?_)
        obtain ⟨k16, k17, k18⟩ := hw
        have hP9 := hP.sub (ws' := [(h, oX11 th aw ai ab ac hi re aP ta po en be de fa a5 sp av an ak ne aW aC ag aT aN aF), (aw, kcI cI 2179 fw)]) [0, 1] rfl
        have hD9 := hD.sub (ws' := [(h, oX11 th aw ai ab ac hi re aP ta po en be de fa a5 sp av an ak ne aW aC ag aT aN aF), (aw, kcI cI 2179 fw)]) [0, 1] (by decide) rfl
        exact W.iret (v := r15) hx hb hr (fun t ht hW => ⟨⟨r15, (), rfl, (kif_t (ltI c1) (kif_f c3 (kif_f (fun q9 => absurd (c5.symm.trans q9) (by decide)) (kif_f (fun q9 => absurd (c5.symm.trans q9) (by decide)) (kif_t c5 (kLet_eq (k18).symm rfl)))))), by rw [ht]; exact hP9, va_K.moved hW.alike hK, hD9⟩, hS.F ht⟩) hS.2.2 dX11_factOf_76
      · skip
        refine lv_tableIn (tgt := 77) (off := 63) hx hb dX11_factOf_14 (by rw [c5]; decide) (by rw [c5]; decide) (by rw [c5]; rfl) (by decide) ?_
        have k19 : Rg st 8 8 := rg_toI c5
        refine lv_aload_n hx hb dX11_factOf_77 rfl (lv_at hl 0 rfl) ?_
        refine va_get (D := D) (ci := 10) (v := .ref aw) (C := RX11) (T := TX11) (N := 26) hx hb hts iG_X11 hown hK hP 0 rfl rfl 1 (by decide) (hts _ w5_3) (fun _ h9 => h9) rfl dX11_factOf_78 ?_
        refine lv_iconst (v := 5) hx hb dX11_factOf_81 (by decide) ?_
        refine va_iald hx hb hK hP 1 0 rfl rfl (rg_in (rg_lit (n := 5) (by decide)) (by decide)) dX11_factOf_82 ?_
        refine lv_topi (fun x20 ex20 => ?_)
        have hP9 := hP.sub (ws' := [(h, oX11 th aw ai ab ac hi re aP ta po en be de fa a5 sp av an ak ne aW aC ag aT aN aF), (aw, kcI cI 2179 fw)]) [0, 1] rfl
        have hD9 := hD.sub (ws' := [(h, oX11 th aw ai ab ac hi re aP ta po en be de fa a5 sp av an ak ne aW aC ag aT aN aF), (aw, kcI cI 2179 fw)]) [0, 1] (by decide) rfl
        exact W.iret (v := x20) hx hb hr (fun t ht hW => ⟨⟨x20, (), rfl, (kif_t (ltI c1) (kif_f c3 (kif_f (fun q9 => absurd (c5.symm.trans q9) (by decide)) (kif_f (fun q9 => absurd (c5.symm.trans q9) (by decide)) (kif_f (fun q9 => absurd (c5.symm.trans q9) (by decide)) (kif_t c5 (kLet_eq (ke_ld ex20) rfl))))))), by rw [ht]; exact hP9, va_K.moved hW.alike hK, hD9⟩, hS.F ht⟩) hS.2.2 dX11_factOf_83
      · skip
        refine lv_tableIn (tgt := 84) (off := 70) hx hb dX11_factOf_14 (by rw [c5]; decide) (by rw [c5]; decide) (by rw [c5]; rfl) (by decide) ?_
        have k21 : Rg st 9 9 := rg_toI c5
        refine lv_aload_n hx hb dX11_factOf_84 rfl (lv_at hl 0 rfl) ?_
        refine lv_iload hx hb dX11_factOf_85 (lv_at hl 4 rfl) ?_
        refine lv_bipush (v := 6) hx hb dX11_factOf_87 (by decide) ?_
        refine kpurei (wc := [(h, oX11 th aw ai ab ac hi re aP ta po en be de fa a5 sp av an ak ne aW aC ag aT aN aF), (aw, kcI cI 2179 fw)]) hP hD hS hA [0, 1] rfl (by decide) (fun hPc hDc hFc => va_runV (As := [.int b, .int 6]) (rest := []) ⟨hx, hb, hml, hown, hts⟩ (r_of6 l D cI cJ cB cC h th aw ai ab ac hi re aP ta po en be de fa a5 sp av an ak ne aW aC ag aT aN aF fw b H.size H_b H_fw_W) (cwV 2 hts gX11_factOf_X11_of rfl rfl rfl ⟨rfl, hdX11_of⟩ ⟨Nat.le_of_ble_eq_true rfl, Nat.le_of_ble_eq_true rfl⟩) ⟨kBlind, va_recv hK hPc (ci := 10) (q0 := 0) rfl rfl, fun U hU hW => ⟨rfl, by rw [hU], hN.warm hW, hE.pass hS hFc hW hU, by rw [hU]; exact hPc, va_K.moved hW.alike hK, hDc⟩⟩ rfl rfl hl.1 rfl (lv_room (Nat.le_of_ble_eq_true rfl)) dX11_factOf_89 ⟨Nat.le_of_ble_eq_true rfl, Nat.le_of_ble_eq_true rfl⟩) (fun r22 u H locs hw hP hS => ?_)
        obtain ⟨k23, k24, k25⟩ := hw
        refine lv_iload_n hx hb dX11_factOf_92 rfl (lv_at hl 3 rfl) ?_
        refine lv_icmp_ne (tgt := 100) hx hb dX11_factOf_93 (by decide) (fun c28 => ?_) (fun c28 => ?_)
        · skip
          refine lv_iconst (v := 0) hx hb dX11_factOf_100 (by decide) ?_
          have hP9 := hP.sub (ws' := [(h, oX11 th aw ai ab ac hi re aP ta po en be de fa a5 sp av an ak ne aW aC ag aT aN aF), (aw, kcI cI 2179 fw)]) [0, 1] rfl
          have hD9 := hD.sub (ws' := [(h, oX11 th aw ai ab ac hi re aP ta po en be de fa a5 sp av an ak ne aW aC ag aT aN aF), (aw, kcI cI 2179 fw)]) [0, 1] (by decide) rfl
          exact W.iret (v := 0) hx hb hr (fun t ht hW => ⟨⟨0, (), rfl, (kif_t (ltI c1) (kif_f c3 (kif_f (fun q9 => absurd (c5.symm.trans q9) (by decide)) (kif_f (fun q9 => absurd (c5.symm.trans q9) (by decide)) (kif_f (fun q9 => absurd (c5.symm.trans q9) (by decide)) (kif_f (fun q9 => absurd (c5.symm.trans q9) (by decide)) (kif_t c5 (kLet_eq (k25).symm (kif_f (neI c28) rfl))))))))), by rw [ht]; exact hP9, va_K.moved hW.alike hK, hD9⟩, hS.F ht⟩) hS.2.2 dX11_factOf_101
        · skip
          have k29 : Rg r22 0 9 := rg_q1 (eqI c28) k24 H_mm (by decide)
          refine lv_iconst (v := 1) hx hb dX11_factOf_96 (by decide) ?_
          refine lv_goto (tgt := 101) hx hb dX11_factOf_97 (by decide) ?_
          have hP9 := hP.sub (ws' := [(h, oX11 th aw ai ab ac hi re aP ta po en be de fa a5 sp av an ak ne aW aC ag aT aN aF), (aw, kcI cI 2179 fw)]) [0, 1] rfl
          have hD9 := hD.sub (ws' := [(h, oX11 th aw ai ab ac hi re aP ta po en be de fa a5 sp av an ak ne aW aC ag aT aN aF), (aw, kcI cI 2179 fw)]) [0, 1] (by decide) rfl
          exact W.iret (v := 1) hx hb hr (fun t ht hW => ⟨⟨1, (), rfl, (kif_t (ltI c1) (kif_f c3 (kif_f (fun q9 => absurd (c5.symm.trans q9) (by decide)) (kif_f (fun q9 => absurd (c5.symm.trans q9) (by decide)) (kif_f (fun q9 => absurd (c5.symm.trans q9) (by decide)) (kif_f (fun q9 => absurd (c5.symm.trans q9) (by decide)) (kif_t c5 (kLet_eq (k25).symm (kif_t (eqI c28) rfl))))))))), by rw [ht]; exact hP9, va_K.moved hW.alike hK, hD9⟩, hS.F ht⟩) hS.2.2 dX11_factOf_101
      · skip
        refine lv_tableIn (tgt := 102) (off := 88) hx hb dX11_factOf_14 (by rw [c5]; decide) (by rw [c5]; decide) (by rw [c5]; rfl) (by decide) ?_
        have k30 : Rg st 10 10 := rg_toI c5
        refine lv_aload_n hx hb dX11_factOf_102 rfl (lv_at hl 0 rfl) ?_
        refine lv_iload_n hx hb dX11_factOf_103 rfl (lv_at hl 3 rfl) ?_
        refine lv_iload hx hb dX11_factOf_104 (lv_at hl 4 rfl) ?_
        refine kpurei (wc := [(h, oX11 th aw ai ab ac hi re aP ta po en be de fa a5 sp av an ak ne aW aC ag aT aN aF), (aw, kcI cI 2179 fw)]) hP hD hS hA [0, 1] rfl (by decide) (fun hPc hDc hFc => va_runV (As := [.int mm, .int b]) (rest := []) ⟨hx, hb, hml, hown, hts⟩ (r_isNextToLast l D cI cJ cB cC h th aw ai ab ac hi re aP ta po en be de fa a5 sp av an ak ne aW aC ag aT aN aF fw mm b H.size H_mm H_b H_fw_W) (cwV 2 hts gX11_factOf_X11_isNextToLast rfl rfl rfl ⟨rfl, hdX11_isNextToLast⟩ ⟨Nat.le_of_ble_eq_true rfl, Nat.le_of_ble_eq_true rfl⟩) ⟨kBlind, va_recv hK hPc (ci := 10) (q0 := 0) rfl rfl, fun U hU hW => ⟨rfl, by rw [hU], hN.warm hW, hE.pass hS hFc hW hU, by rw [hU]; exact hPc, va_K.moved hW.alike hK, hDc⟩⟩ rfl rfl hl.1 rfl (lv_room (Nat.le_of_ble_eq_true rfl)) dX11_factOf_106 ⟨Nat.le_of_ble_eq_true rfl, Nat.le_of_ble_eq_true rfl⟩) (fun r31 u H locs hw hP hS => ?_)
        obtain ⟨k32, hw⟩ := hw
        rcases hw with rfl | rfl
        · skip
          refine lv_if_eq (tgt := 116) hx hb dX11_factOf_109 (by decide) (fun _ => ?_) (fun c35 => absurd (by decide) c35)
          refine lv_iconst (v := 0) hx hb dX11_factOf_116 (by decide) ?_
          have hP9 := hP.sub (ws' := [(h, oX11 th aw ai ab ac hi re aP ta po en be de fa a5 sp av an ak ne aW aC ag aT aN aF), (aw, kcI cI 2179 fw)]) [0, 1] rfl
          have hD9 := hD.sub (ws' := [(h, oX11 th aw ai ab ac hi re aP ta po en be de fa a5 sp av an ak ne aW aC ag aT aN aF), (aw, kcI cI 2179 fw)]) [0, 1] (by decide) rfl
          exact W.iret (v := 0) hx hb hr (fun t ht hW => ⟨⟨0, (), rfl, (kif_t (ltI c1) (kif_f c3 (kif_f (fun q9 => absurd (c5.symm.trans q9) (by decide)) (kif_f (fun q9 => absurd (c5.symm.trans q9) (by decide)) (kif_f (fun q9 => absurd (c5.symm.trans q9) (by decide)) (kif_f (fun q9 => absurd (c5.symm.trans q9) (by decide)) (kif_f (fun q9 => absurd (c5.symm.trans q9) (by decide)) (kif_t c5 (kLet_eq (k32).symm (kif_t rfl rfl)))))))))), by rw [ht]; exact hP9, va_K.moved hW.alike hK, hD9⟩, hS.F ht⟩) hS.2.2 dX11_factOf_117
        · skip
          refine lv_if_eq (tgt := 116) hx hb dX11_factOf_109 (by decide) (fun c37 => absurd c37 (by decide)) (fun _ => ?_)
          refine lv_iconst (v := 1) hx hb dX11_factOf_112 (by decide) ?_
          refine lv_goto (tgt := 117) hx hb dX11_factOf_113 (by decide) ?_
          have hP9 := hP.sub (ws' := [(h, oX11 th aw ai ab ac hi re aP ta po en be de fa a5 sp av an ak ne aW aC ag aT aN aF), (aw, kcI cI 2179 fw)]) [0, 1] rfl
          have hD9 := hD.sub (ws' := [(h, oX11 th aw ai ab ac hi re aP ta po en be de fa a5 sp av an ak ne aW aC ag aT aN aF), (aw, kcI cI 2179 fw)]) [0, 1] (by decide) rfl
          exact W.iret (v := 1) hx hb hr (fun t ht hW => ⟨⟨1, (), rfl, (kif_t (ltI c1) (kif_f c3 (kif_f (fun q9 => absurd (c5.symm.trans q9) (by decide)) (kif_f (fun q9 => absurd (c5.symm.trans q9) (by decide)) (kif_f (fun q9 => absurd (c5.symm.trans q9) (by decide)) (kif_f (fun q9 => absurd (c5.symm.trans q9) (by decide)) (kif_f (fun q9 => absurd (c5.symm.trans q9) (by decide)) (kif_t c5 (kLet_eq (k32).symm (kif_f (by decide) rfl)))))))))), by rw [ht]; exact hP9, va_K.moved hW.alike hK, hD9⟩, hS.F ht⟩) hS.2.2 dX11_factOf_117
      · skip
        refine lv_tableIn (tgt := 118) (off := 104) hx hb dX11_factOf_14 (by rw [c5]; decide) (by rw [c5]; decide) (by rw [c5]; rfl) (by decide) ?_
        have k38 : Rg st 11 11 := rg_toI c5
        refine lv_aload_n hx hb dX11_factOf_118 rfl (lv_at hl 0 rfl) ?_
        refine lv_iload hx hb dX11_factOf_119 (lv_at hl 4 rfl) ?_
        refine lv_iconst (v := 0) hx hb dX11_factOf_121 (by decide) ?_
        refine kpurei (wc := [(h, oX11 th aw ai ab ac hi re aP ta po en be de fa a5 sp av an ak ne aW aC ag aT aN aF), (aw, kcI cI 2179 fw)]) hP hD hS hA [0, 1] rfl (by decide) (fun hPc hDc hFc => va_runV (As := [.int b, .int 0]) (rest := []) ⟨hx, hb, hml, hown, hts⟩ (r_of0 l D cI cJ cB cC h th aw ai ab ac hi re aP ta po en be de fa a5 sp av an ak ne aW aC ag aT aN aF fw b H.size H_b H_fw_W) (cwV 2 hts gX11_factOf_X11_of rfl rfl rfl ⟨rfl, hdX11_of⟩ ⟨Nat.le_of_ble_eq_true rfl, Nat.le_of_ble_eq_true rfl⟩) ⟨kBlind, va_recv hK hPc (ci := 10) (q0 := 0) rfl rfl, fun U hU hW => ⟨rfl, by rw [hU], hN.warm hW, hE.pass hS hFc hW hU, by rw [hU]; exact hPc, va_K.moved hW.alike hK, hDc⟩⟩ rfl rfl hl.1 rfl (lv_room (Nat.le_of_ble_eq_true rfl)) dX11_factOf_122 ⟨Nat.le_of_ble_eq_true rfl, Nat.le_of_ble_eq_true rfl⟩) (fun r39 u H locs hw hP hS => ?_)
        obtain ⟨k40, k41⟩ := hw
        refine lv_aload_n hx hb dX11_factOf_125 rfl (lv_at hl 0 rfl) ?_
        refine lv_iload_n hx hb dX11_factOf_126 rfl (lv_at hl 3 rfl) ?_
        refine lv_iconst (v := 3) hx hb dX11_factOf_127 (by decide) ?_
        refine kpurei (wc := [(h, oX11 th aw ai ab ac hi re aP ta po en be de fa a5 sp av an ak ne aW aC ag aT aN aF), (aw, kcI cI 2179 fw)]) hP hD hS hA [0, 1] rfl (by decide) (fun hPc hDc hFc => va_runV (As := [.int mm, .int 3]) (rest := [.int r39]) ⟨hx, hb, hml, hown, hts⟩ (r_ofMan3 l D cI cJ cB cC h th aw ai ab ac hi re aP ta po en be de fa a5 sp av an ak ne aW aC ag aT aN aF fw mm H.size H_mm H_fw_W) (cwV 2 hts gX11_factOf_X11_ofMan rfl rfl rfl ⟨rfl, hdX11_ofMan⟩ ⟨Nat.le_of_ble_eq_true rfl, Nat.le_of_ble_eq_true rfl⟩) ⟨kBlind, va_recv hK hPc (ci := 10) (q0 := 0) rfl rfl, fun U hU hW => ⟨rfl, by rw [hU], hN.warm hW, hE.pass hS hFc hW hU, by rw [hU]; exact hPc, va_K.moved hW.alike hK, hDc⟩⟩ rfl rfl hl.1 rfl (lv_room (Nat.le_of_ble_eq_true rfl)) dX11_factOf_128 ⟨Nat.le_of_ble_eq_true rfl, Nat.le_of_ble_eq_true rfl⟩) (fun r42 u H locs hw hP hS => ?_)
        obtain ⟨k43, k44⟩ := hw
        refine lv_icmp_ne (tgt := 138) hx hb dX11_factOf_131 (by decide) (fun c46 => ?_) (fun c46 => ?_)
        · skip
          refine lv_iconst (v := 0) hx hb dX11_factOf_138 (by decide) ?_
          have hP9 := hP.sub (ws' := [(h, oX11 th aw ai ab ac hi re aP ta po en be de fa a5 sp av an ak ne aW aC ag aT aN aF), (aw, kcI cI 2179 fw)]) [0, 1] rfl
          have hD9 := hD.sub (ws' := [(h, oX11 th aw ai ab ac hi re aP ta po en be de fa a5 sp av an ak ne aW aC ag aT aN aF), (aw, kcI cI 2179 fw)]) [0, 1] (by decide) rfl
          exact W.iret (v := 0) hx hb hr (fun t ht hW => ⟨⟨0, (), rfl, (kif_t (ltI c1) (kif_f c3 (kif_f (fun q9 => absurd (c5.symm.trans q9) (by decide)) (kif_f (fun q9 => absurd (c5.symm.trans q9) (by decide)) (kif_f (fun q9 => absurd (c5.symm.trans q9) (by decide)) (kif_f (fun q9 => absurd (c5.symm.trans q9) (by decide)) (kif_f (fun q9 => absurd (c5.symm.trans q9) (by decide)) (kif_f (fun q9 => absurd (c5.symm.trans q9) (by decide)) (kLet_eq (k41).symm (kLet_eq (k44).symm (kif_f (neI c46) rfl))))))))))), by rw [ht]; exact hP9, va_K.moved hW.alike hK, hD9⟩, hS.F ht⟩) hS.2.2 dX11_factOf_139
        · skip
          refine lv_iconst (v := 1) hx hb dX11_factOf_134 (by decide) ?_
          refine lv_goto (tgt := 139) hx hb dX11_factOf_135 (by decide) ?_
          have hP9 := hP.sub (ws' := [(h, oX11 th aw ai ab ac hi re aP ta po en be de fa a5 sp av an ak ne aW aC ag aT aN aF), (aw, kcI cI 2179 fw)]) [0, 1] rfl
          have hD9 := hD.sub (ws' := [(h, oX11 th aw ai ab ac hi re aP ta po en be de fa a5 sp av an ak ne aW aC ag aT aN aF), (aw, kcI cI 2179 fw)]) [0, 1] (by decide) rfl
          exact W.iret (v := 1) hx hb hr (fun t ht hW => ⟨⟨1, (), rfl, (kif_t (ltI c1) (kif_f c3 (kif_f (fun q9 => absurd (c5.symm.trans q9) (by decide)) (kif_f (fun q9 => absurd (c5.symm.trans q9) (by decide)) (kif_f (fun q9 => absurd (c5.symm.trans q9) (by decide)) (kif_f (fun q9 => absurd (c5.symm.trans q9) (by decide)) (kif_f (fun q9 => absurd (c5.symm.trans q9) (by decide)) (kif_f (fun q9 => absurd (c5.symm.trans q9) (by decide)) (kLet_eq (k41).symm (kLet_eq (k44).symm (kif_t (eqI c46) rfl))))))))))), by rw [ht]; exact hP9, va_K.moved hW.alike hK, hD9⟩, hS.F ht⟩) hS.2.2 dX11_factOf_139
  · skip
    have k47 : Rg st 0 4 := rg_e1 (nltI c1) H_st (rg_lit (n := 4) (by decide)) (by decide)
    refine lv_aload_n hx hb dX11_factOf_5 rfl (lv_at hl 0 rfl) ?_
    refine lv_iload hx hb dX11_factOf_6 (lv_at hl 4 rfl) ?_
    refine lv_iload_n hx hb dX11_factOf_8 rfl (lv_at hl 1 rfl) ?_
    refine kpurei (wc := [(h, oX11 th aw ai ab ac hi re aP ta po en be de fa a5 sp av an ak ne aW aC ag aT aN aF), (aw, kcI cI 2179 fw)]) hP hD hS hA [0, 1] rfl (by decide) (fun hPc hDc hFc => va_runV (As := [.int b, .int st]) (rest := []) ⟨hx, hb, hml, hown, hts⟩ (r_of l D cI cJ cB cC h th aw ai ab ac hi re aP ta po en be de fa a5 sp av an ak ne aW aC ag aT aN aF fw b st H.size H_b (rg_w k47 (by decide)) H_fw_W) (cwV 2 hts gX11_factOf_X11_of rfl rfl rfl ⟨rfl, hdX11_of⟩ ⟨Nat.le_of_ble_eq_true rfl, Nat.le_of_ble_eq_true rfl⟩) ⟨kBlind, va_recv hK hPc (ci := 10) (q0 := 0) rfl rfl, fun U hU hW => ⟨rfl, by rw [hU], hN.warm hW, hE.pass hS hFc hW hU, by rw [hU]; exact hPc, va_K.moved hW.alike hK, hDc⟩⟩ rfl rfl hl.1 rfl (lv_room (Nat.le_of_ble_eq_true rfl)) dX11_factOf_9 ⟨Nat.le_of_ble_eq_true rfl, Nat.le_of_ble_eq_true rfl⟩) (fun r48 u H locs hw hP hS => ?_)
    have k49 := hw
    have hP9 := hP.sub (ws' := [(h, oX11 th aw ai ab ac hi re aP ta po en be de fa a5 sp av an ak ne aW aC ag aT aN aF), (aw, kcI cI 2179 fw)]) [0, 1] rfl
    have hD9 := hD.sub (ws' := [(h, oX11 th aw ai ab ac hi re aP ta po en be de fa a5 sp av an ak ne aW aC ag aT aN aF), (aw, kcI cI 2179 fw)]) [0, 1] (by decide) rfl
    exact W.iret (v := r48) hx hb hr (fun t ht hW => ⟨⟨r48, (), rfl, (kif_f (xF_lt c1) (kLet_eq (k49).symm rfl)), by rw [ht]; exact hP9, va_K.moved hW.alike hK, hD9⟩, hS.F ht⟩) hS.2.2 dX11_factOf_12

def kwX11_holdsLine : List Cond := .code yX11_holdsLine cX11_holdsLine 11 (some .boolean) :: kG
theorem hdX11_holdsLine : yX11_holdsLine.cls ≠ "java/lang/invoke/MethodHandle" ∧ yX11_holdsLine.cls ≠ "java/lang/invoke/VarHandle" ∧ (parseMethodDescriptor yX11_holdsLine.desc).map (fun d => d.parameters.length) = some 3 := by decide +kernel
theorem gX11_holdsLine_X11_factOf : GoodIn kG (wsV RX11 273 RX11 yX11_factOf kwX11_factOf) := gK w30_19 (gK w30_20 (gK w30_21 (gK w0_5 (gK w30_22 gGG))))
theorem dX11_holdsLine_0 : decode cX11_holdsLine 0 = .ok (.iconst 0, 1) := by decide +kernel
theorem dX11_holdsLine_1 : decode cX11_holdsLine 1 = .ok (.istore 4, 2) := by decide +kernel
theorem dX11_holdsLine_3 : decode cX11_holdsLine 3 = .ok (.sipush 506, 3) := by decide +kernel
theorem dX11_holdsLine_6 : decode cX11_holdsLine 6 = .ok (.iconst 3, 1) := by decide +kernel
theorem dX11_holdsLine_7 : decode cX11_holdsLine 7 = .ok (.iload_n 1, 1) := by decide +kernel
theorem dX11_holdsLine_8 : decode cX11_holdsLine 8 = .ok (.imul, 1) := by decide +kernel
theorem dX11_holdsLine_9 : decode cX11_holdsLine 9 = .ok (.iadd, 1) := by decide +kernel
theorem dX11_holdsLine_10 : decode cX11_holdsLine 10 = .ok (.istore 5, 2) := by decide +kernel
theorem dX11_holdsLine_12 : decode cX11_holdsLine 12 = .ok (.aload_n 0, 1) := by decide +kernel
theorem dX11_holdsLine_13 : decode cX11_holdsLine 13 = .ok (.getfield 13, 3) := by decide +kernel
theorem dX11_holdsLine_16 : decode cX11_holdsLine 16 = .ok (.iload 5, 2) := by decide +kernel
theorem dX11_holdsLine_18 : decode cX11_holdsLine 18 = .ok (.iconst 1, 1) := by decide +kernel
theorem dX11_holdsLine_19 : decode cX11_holdsLine 19 = .ok (.iadd, 1) := by decide +kernel
theorem dX11_holdsLine_20 : decode cX11_holdsLine 20 = .ok (.iaload, 1) := by decide +kernel
theorem dX11_holdsLine_21 : decode cX11_holdsLine 21 = .ok (.istore 6, 2) := by decide +kernel
theorem dX11_holdsLine_23 : decode cX11_holdsLine 23 = .ok (.iload 6, 2) := by decide +kernel
theorem dX11_holdsLine_25 : decode cX11_holdsLine 25 = .ok (.aload_n 0, 1) := by decide +kernel
theorem dX11_holdsLine_26 : decode cX11_holdsLine 26 = .ok (.getfield 13, 3) := by decide +kernel
theorem dX11_holdsLine_29 : decode cX11_holdsLine 29 = .ok (.iload 5, 2) := by decide +kernel
theorem dX11_holdsLine_31 : decode cX11_holdsLine 31 = .ok (.iconst 2, 1) := by decide +kernel
theorem dX11_holdsLine_32 : decode cX11_holdsLine 32 = .ok (.iadd, 1) := by decide +kernel
theorem dX11_holdsLine_33 : decode cX11_holdsLine 33 = .ok (.iaload, 1) := by decide +kernel
theorem dX11_holdsLine_34 : decode cX11_holdsLine 34 = .ok (.if_icmp .ge 237, 3) := by decide +kernel
theorem dX11_holdsLine_37 : decode cX11_holdsLine 37 = .ok (.aload_n 0, 1) := by decide +kernel
theorem dX11_holdsLine_38 : decode cX11_holdsLine 38 = .ok (.getfield 13, 3) := by decide +kernel
theorem dX11_holdsLine_41 : decode cX11_holdsLine 41 = .ok (.sipush 542, 3) := by decide +kernel
theorem dX11_holdsLine_44 : decode cX11_holdsLine 44 = .ok (.iconst 2, 1) := by decide +kernel
theorem dX11_holdsLine_45 : decode cX11_holdsLine 45 = .ok (.iload 6, 2) := by decide +kernel
theorem dX11_holdsLine_47 : decode cX11_holdsLine 47 = .ok (.imul, 1) := by decide +kernel
theorem dX11_holdsLine_48 : decode cX11_holdsLine 48 = .ok (.iadd, 1) := by decide +kernel
theorem dX11_holdsLine_49 : decode cX11_holdsLine 49 = .ok (.iaload, 1) := by decide +kernel
theorem dX11_holdsLine_50 : decode cX11_holdsLine 50 = .ok (.istore 7, 2) := by decide +kernel
theorem dX11_holdsLine_52 : decode cX11_holdsLine 52 = .ok (.iload 7, 2) := by decide +kernel
theorem dX11_holdsLine_54 : decode cX11_holdsLine 54 = .ok (.bipush 12, 2) := by decide +kernel
theorem dX11_holdsLine_56 : decode cX11_holdsLine 56 = .ok (.if_icmp .gt 39, 3) := by decide +kernel
theorem dX11_holdsLine_59 : decode cX11_holdsLine 59 = .ok (.aload_n 0, 1) := by decide +kernel
theorem dX11_holdsLine_60 : decode cX11_holdsLine 60 = .ok (.getfield 36, 3) := by decide +kernel
theorem dX11_holdsLine_63 : decode cX11_holdsLine 63 = .ok (.iload 4, 2) := by decide +kernel
theorem dX11_holdsLine_65 : decode cX11_holdsLine 65 = .ok (.aload_n 0, 1) := by decide +kernel
theorem dX11_holdsLine_66 : decode cX11_holdsLine 66 = .ok (.iload 7, 2) := by decide +kernel
theorem dX11_holdsLine_68 : decode cX11_holdsLine 68 = .ok (.aload_n 0, 1) := by decide +kernel
theorem dX11_holdsLine_69 : decode cX11_holdsLine 69 = .ok (.getfield 13, 3) := by decide +kernel
theorem dX11_holdsLine_72 : decode cX11_holdsLine 72 = .ok (.sipush 542, 3) := by decide +kernel
theorem dX11_holdsLine_75 : decode cX11_holdsLine 75 = .ok (.iconst 2, 1) := by decide +kernel
theorem dX11_holdsLine_76 : decode cX11_holdsLine 76 = .ok (.iload 6, 2) := by decide +kernel
theorem dX11_holdsLine_78 : decode cX11_holdsLine 78 = .ok (.imul, 1) := by decide +kernel
theorem dX11_holdsLine_79 : decode cX11_holdsLine 79 = .ok (.iadd, 1) := by decide +kernel
theorem dX11_holdsLine_80 : decode cX11_holdsLine 80 = .ok (.iconst 1, 1) := by decide +kernel
theorem dX11_holdsLine_81 : decode cX11_holdsLine 81 = .ok (.iadd, 1) := by decide +kernel
theorem dX11_holdsLine_82 : decode cX11_holdsLine 82 = .ok (.iaload, 1) := by decide +kernel
theorem dX11_holdsLine_83 : decode cX11_holdsLine 83 = .ok (.iload_n 2, 1) := by decide +kernel
theorem dX11_holdsLine_84 : decode cX11_holdsLine 84 = .ok (.iload_n 3, 1) := by decide +kernel
theorem dX11_holdsLine_85 : decode cX11_holdsLine 85 = .ok (.invokevirtual 273, 3) := by decide +kernel
theorem dX11_holdsLine_88 : decode cX11_holdsLine 88 = .ok (.iastore, 1) := by decide +kernel
theorem dX11_holdsLine_89 : decode cX11_holdsLine 89 = .ok (.iinc 4 1, 3) := by decide +kernel
theorem dX11_holdsLine_92 : decode cX11_holdsLine 92 = .ok (.goto 173, 3) := by decide +kernel
theorem dX11_holdsLine_95 : decode cX11_holdsLine 95 = .ok (.iload 7, 2) := by decide +kernel
theorem dX11_holdsLine_97 : decode cX11_holdsLine 97 = .ok (.bipush 16, 2) := by decide +kernel
theorem dX11_holdsLine_99 : decode cX11_holdsLine 99 = .ok (.if_icmp .ne 26, 3) := by decide +kernel
theorem dX11_holdsLine_102 : decode cX11_holdsLine 102 = .ok (.aload_n 0, 1) := by decide +kernel
theorem dX11_holdsLine_103 : decode cX11_holdsLine 103 = .ok (.getfield 36, 3) := by decide +kernel
theorem dX11_holdsLine_106 : decode cX11_holdsLine 106 = .ok (.iload 4, 2) := by decide +kernel
theorem dX11_holdsLine_108 : decode cX11_holdsLine 108 = .ok (.iconst 1, 1) := by decide +kernel
theorem dX11_holdsLine_109 : decode cX11_holdsLine 109 = .ok (.isub, 1) := by decide +kernel
theorem dX11_holdsLine_110 : decode cX11_holdsLine 110 = .ok (.iconst 1, 1) := by decide +kernel
theorem dX11_holdsLine_111 : decode cX11_holdsLine 111 = .ok (.aload_n 0, 1) := by decide +kernel
theorem dX11_holdsLine_112 : decode cX11_holdsLine 112 = .ok (.getfield 36, 3) := by decide +kernel
theorem dX11_holdsLine_115 : decode cX11_holdsLine 115 = .ok (.iload 4, 2) := by decide +kernel
theorem dX11_holdsLine_117 : decode cX11_holdsLine 117 = .ok (.iconst 1, 1) := by decide +kernel
theorem dX11_holdsLine_118 : decode cX11_holdsLine 118 = .ok (.isub, 1) := by decide +kernel
theorem dX11_holdsLine_119 : decode cX11_holdsLine 119 = .ok (.iaload, 1) := by decide +kernel
theorem dX11_holdsLine_120 : decode cX11_holdsLine 120 = .ok (.isub, 1) := by decide +kernel
theorem dX11_holdsLine_121 : decode cX11_holdsLine 121 = .ok (.iastore, 1) := by decide +kernel
theorem dX11_holdsLine_122 : decode cX11_holdsLine 122 = .ok (.goto 143, 3) := by decide +kernel
theorem dX11_holdsLine_125 : decode cX11_holdsLine 125 = .ok (.iinc 4 (-1), 3) := by decide +kernel
theorem dX11_holdsLine_128 : decode cX11_holdsLine 128 = .ok (.aload_n 0, 1) := by decide +kernel
theorem dX11_holdsLine_129 : decode cX11_holdsLine 129 = .ok (.getfield 36, 3) := by decide +kernel
theorem dX11_holdsLine_132 : decode cX11_holdsLine 132 = .ok (.iload 4, 2) := by decide +kernel
theorem dX11_holdsLine_134 : decode cX11_holdsLine 134 = .ok (.iconst 1, 1) := by decide +kernel
theorem dX11_holdsLine_135 : decode cX11_holdsLine 135 = .ok (.isub, 1) := by decide +kernel
theorem dX11_holdsLine_136 : decode cX11_holdsLine 136 = .ok (.iaload, 1) := by decide +kernel
theorem dX11_holdsLine_137 : decode cX11_holdsLine 137 = .ok (.istore 8, 2) := by decide +kernel
theorem dX11_holdsLine_139 : decode cX11_holdsLine 139 = .ok (.aload_n 0, 1) := by decide +kernel
theorem dX11_holdsLine_140 : decode cX11_holdsLine 140 = .ok (.getfield 36, 3) := by decide +kernel
theorem dX11_holdsLine_143 : decode cX11_holdsLine 143 = .ok (.iload 4, 2) := by decide +kernel
theorem dX11_holdsLine_145 : decode cX11_holdsLine 145 = .ok (.iaload, 1) := by decide +kernel
theorem dX11_holdsLine_146 : decode cX11_holdsLine 146 = .ok (.istore 9, 2) := by decide +kernel
theorem dX11_holdsLine_148 : decode cX11_holdsLine 148 = .ok (.iload 7, 2) := by decide +kernel
theorem dX11_holdsLine_150 : decode cX11_holdsLine 150 = .ok (.bipush 14, 2) := by decide +kernel
theorem dX11_holdsLine_152 : decode cX11_holdsLine 152 = .ok (.if_icmp .ne 18, 3) := by decide +kernel
theorem dX11_holdsLine_155 : decode cX11_holdsLine 155 = .ok (.iload 8, 2) := by decide +kernel
theorem dX11_holdsLine_157 : decode cX11_holdsLine 157 = .ok (.iload 9, 2) := by decide +kernel
theorem dX11_holdsLine_159 : decode cX11_holdsLine 159 = .ok (.if_icmp .ge 7, 3) := by decide +kernel
theorem dX11_holdsLine_162 : decode cX11_holdsLine 162 = .ok (.iconst 1, 1) := by decide +kernel
theorem dX11_holdsLine_163 : decode cX11_holdsLine 163 = .ok (.goto 66, 3) := by decide +kernel
theorem dX11_holdsLine_166 : decode cX11_holdsLine 166 = .ok (.iconst 0, 1) := by decide +kernel
theorem dX11_holdsLine_167 : decode cX11_holdsLine 167 = .ok (.goto 62, 3) := by decide +kernel
theorem dX11_holdsLine_170 : decode cX11_holdsLine 170 = .ok (.iload 7, 2) := by decide +kernel
theorem dX11_holdsLine_172 : decode cX11_holdsLine 172 = .ok (.bipush 15, 2) := by decide +kernel
theorem dX11_holdsLine_174 : decode cX11_holdsLine 174 = .ok (.if_icmp .ne 18, 3) := by decide +kernel
theorem dX11_holdsLine_177 : decode cX11_holdsLine 177 = .ok (.iload 8, 2) := by decide +kernel
theorem dX11_holdsLine_179 : decode cX11_holdsLine 179 = .ok (.iload 9, 2) := by decide +kernel
theorem dX11_holdsLine_181 : decode cX11_holdsLine 181 = .ok (.if_icmp .le 7, 3) := by decide +kernel
theorem dX11_holdsLine_184 : decode cX11_holdsLine 184 = .ok (.iconst 1, 1) := by decide +kernel
theorem dX11_holdsLine_185 : decode cX11_holdsLine 185 = .ok (.goto 44, 3) := by decide +kernel
theorem dX11_holdsLine_188 : decode cX11_holdsLine 188 = .ok (.iconst 0, 1) := by decide +kernel
theorem dX11_holdsLine_189 : decode cX11_holdsLine 189 = .ok (.goto 40, 3) := by decide +kernel
theorem dX11_holdsLine_192 : decode cX11_holdsLine 192 = .ok (.iload 7, 2) := by decide +kernel
theorem dX11_holdsLine_194 : decode cX11_holdsLine 194 = .ok (.bipush 17, 2) := by decide +kernel
theorem dX11_holdsLine_196 : decode cX11_holdsLine 196 = .ok (.if_icmp .ne 20, 3) := by decide +kernel
theorem dX11_holdsLine_199 : decode cX11_holdsLine 199 = .ok (.iload 8, 2) := by decide +kernel
theorem dX11_holdsLine_201 : decode cX11_holdsLine 201 = .ok (.iload 9, 2) := by decide +kernel
theorem dX11_holdsLine_203 : decode cX11_holdsLine 203 = .ok (.iadd, 1) := by decide +kernel
theorem dX11_holdsLine_204 : decode cX11_holdsLine 204 = .ok (.iconst 2, 1) := by decide +kernel
theorem dX11_holdsLine_205 : decode cX11_holdsLine 205 = .ok (.if_icmp .ne 7, 3) := by decide +kernel
theorem dX11_holdsLine_208 : decode cX11_holdsLine 208 = .ok (.iconst 1, 1) := by decide +kernel
theorem dX11_holdsLine_209 : decode cX11_holdsLine 209 = .ok (.goto 20, 3) := by decide +kernel
theorem dX11_holdsLine_212 : decode cX11_holdsLine 212 = .ok (.iconst 0, 1) := by decide +kernel
theorem dX11_holdsLine_213 : decode cX11_holdsLine 213 = .ok (.goto 16, 3) := by decide +kernel
theorem dX11_holdsLine_216 : decode cX11_holdsLine 216 = .ok (.iload 8, 2) := by decide +kernel
theorem dX11_holdsLine_218 : decode cX11_holdsLine 218 = .ok (.iload 9, 2) := by decide +kernel
theorem dX11_holdsLine_220 : decode cX11_holdsLine 220 = .ok (.iadd, 1) := by decide +kernel
theorem dX11_holdsLine_221 : decode cX11_holdsLine 221 = .ok (.ifCond .le 7, 3) := by decide +kernel
theorem dX11_holdsLine_224 : decode cX11_holdsLine 224 = .ok (.iconst 1, 1) := by decide +kernel
theorem dX11_holdsLine_225 : decode cX11_holdsLine 225 = .ok (.goto 4, 3) := by decide +kernel
theorem dX11_holdsLine_228 : decode cX11_holdsLine 228 = .ok (.iconst 0, 1) := by decide +kernel
theorem dX11_holdsLine_229 : decode cX11_holdsLine 229 = .ok (.istore 10, 2) := by decide +kernel
theorem dX11_holdsLine_231 : decode cX11_holdsLine 231 = .ok (.aload_n 0, 1) := by decide +kernel
theorem dX11_holdsLine_232 : decode cX11_holdsLine 232 = .ok (.getfield 36, 3) := by decide +kernel
theorem dX11_holdsLine_235 : decode cX11_holdsLine 235 = .ok (.iload 4, 2) := by decide +kernel
theorem dX11_holdsLine_237 : decode cX11_holdsLine 237 = .ok (.iconst 1, 1) := by decide +kernel
theorem dX11_holdsLine_238 : decode cX11_holdsLine 238 = .ok (.isub, 1) := by decide +kernel
theorem dX11_holdsLine_239 : decode cX11_holdsLine 239 = .ok (.iload 7, 2) := by decide +kernel
theorem dX11_holdsLine_241 : decode cX11_holdsLine 241 = .ok (.bipush 13, 2) := by decide +kernel
theorem dX11_holdsLine_243 : decode cX11_holdsLine 243 = .ok (.if_icmp .ne 11, 3) := by decide +kernel
theorem dX11_holdsLine_246 : decode cX11_holdsLine 246 = .ok (.iload 8, 2) := by decide +kernel
theorem dX11_holdsLine_248 : decode cX11_holdsLine 248 = .ok (.iload 9, 2) := by decide +kernel
theorem dX11_holdsLine_250 : decode cX11_holdsLine 250 = .ok (.iadd, 1) := by decide +kernel
theorem dX11_holdsLine_251 : decode cX11_holdsLine 251 = .ok (.goto 13, 3) := by decide +kernel
theorem dX11_holdsLine_254 : decode cX11_holdsLine 254 = .ok (.iload 10, 2) := by decide +kernel
theorem dX11_holdsLine_256 : decode cX11_holdsLine 256 = .ok (.ifCond .eq 7, 3) := by decide +kernel
theorem dX11_holdsLine_259 : decode cX11_holdsLine 259 = .ok (.iconst 1, 1) := by decide +kernel
theorem dX11_holdsLine_260 : decode cX11_holdsLine 260 = .ok (.goto 4, 3) := by decide +kernel
theorem dX11_holdsLine_263 : decode cX11_holdsLine 263 = .ok (.iconst 0, 1) := by decide +kernel
theorem dX11_holdsLine_264 : decode cX11_holdsLine 264 = .ok (.iastore, 1) := by decide +kernel
theorem dX11_holdsLine_265 : decode cX11_holdsLine 265 = .ok (.iinc 6 1, 3) := by decide +kernel
theorem dX11_holdsLine_268 : decode cX11_holdsLine 268 = .ok (.goto (-245), 3) := by decide +kernel
theorem dX11_holdsLine_271 : decode cX11_holdsLine 271 = .ok (.iload 4, 2) := by decide +kernel
theorem dX11_holdsLine_273 : decode cX11_holdsLine 273 = .ok (.ifCond .eq 13, 3) := by decide +kernel
theorem dX11_holdsLine_276 : decode cX11_holdsLine 276 = .ok (.aload_n 0, 1) := by decide +kernel
theorem dX11_holdsLine_277 : decode cX11_holdsLine 277 = .ok (.getfield 36, 3) := by decide +kernel
theorem dX11_holdsLine_280 : decode cX11_holdsLine 280 = .ok (.iconst 0, 1) := by decide +kernel
theorem dX11_holdsLine_281 : decode cX11_holdsLine 281 = .ok (.iaload, 1) := by decide +kernel
theorem dX11_holdsLine_282 : decode cX11_holdsLine 282 = .ok (.iconst 1, 1) := by decide +kernel
theorem dX11_holdsLine_283 : decode cX11_holdsLine 283 = .ok (.if_icmp .ne 7, 3) := by decide +kernel
theorem dX11_holdsLine_286 : decode cX11_holdsLine 286 = .ok (.iconst 1, 1) := by decide +kernel
theorem dX11_holdsLine_287 : decode cX11_holdsLine 287 = .ok (.goto 4, 3) := by decide +kernel
theorem dX11_holdsLine_290 : decode cX11_holdsLine 290 = .ok (.iconst 0, 1) := by decide +kernel
theorem dX11_holdsLine_291 : decode cX11_holdsLine 291 = .ok (.ireturn, 1) := by decide +kernel
set_option maxHeartbeats 4000000 in
set_option maxRecDepth 100000 in
/-- reference: holdsLine -/
theorem r_holdsLine (l : Launch) (D : va_G) (cI cJ cB cC : ClassId) (h : Nat) (th : Int32) (aw : Nat) (ai : Nat) (ab : Nat) (ac : Nat) (hi : Int32) (re : Int32) (aP : Nat) (ta : Int32) (po : Int32) (en : Int32) (be : Int32) (de : Int32) (fa : Int32) (a5 : Nat) (sp : Int32) (av : Nat) (an : Nat) (ak : Nat) (ne : Int32) (aW : Nat) (aC : Nat) (ag : Nat) (aT : Nat) (aN : Nat) (aF : Nat) (fw : Nat → Int32) (fv : Nat → Int32) (line : Int32) (mm : Int32) (b : Int32) (sz : Nat) (H_mm : Rg mm 0 9) (H_b : Rg b 0 11) (H_line : Rg line 0 11) (H_fw_W : wW fw) (H_fw_L : wL fw) (H_LN : (line : Int32).toInt < (fw 505).toInt) : Met l yX11_holdsLine kwX11_holdsLine ({ frames := 4, cells := 0, slots := 0, locals := 90 } : Room) (kPre D (kT cI cJ cB cC) sz [(h, oX11 th aw ai ab ac hi re aP ta po en be de fa a5 sp av an ak ne aW aC ag aT aN aF), (aw, kcI cI 2179 fw), (av, kcI cI 400 fv)] [.ref h, .int line, .int mm, .int b]) (va_Qi (fun (r : Int32) (f0_ : (Nat → Int32)) => Rg r 0 1 ∧ F_r_holdsLine (gT fw) (gT fv) (line : Int32).toInt (mm : Int32).toInt (b : Int32).toInt = ((r : Int32).toInt, (gT f0_))) (fun (f0_ : (Nat → Int32)) (t : State) => kB D (kT cI cJ cB cC) (va_A [(h, oX11 th aw ai ab ac hi re aP ta po en be de fa a5 sp av an ak ne aW aC ag aT aN aF), (aw, kcI cI 2179 fw), (av, kcI cI 400 fv)] sz) [(h, oX11 th aw ai ab ac hi re aP ta po en be de fa a5 sp av an ak ne aW aC ag aT aN aF), (aw, kcI cI 2179 fw), (av, kcI cI 400 f0_)] t) (va_A [(h, oX11 th aw ai ab ac hi re aP ta po en be de fa a5 sp av an ak ne aW aC ag aT aN aF), (aw, kcI cI 2179 fw), (av, kcI cI 400 fv)] sz)) 0 0 (va_A [(h, oX11 th aw ai ab ac hi re aP ta po en be de fa a5 sp av an ak ne aW aC ag aT aN aF), (aw, kcI cI 2179 fw), (av, kcI cI 400 fv)] sz) := by
  refine Met.ofW (cc := cX11_holdsLine) (maxL := 11) (ret := (some .boolean)) (by decide) rfl ?_
  intro p e s m args below meth c s₁ B hml hv
  obtain ⟨rfl, hsz, hN, hE, hP, hK, hD0⟩ := hv
  have hx := B.exec
  have hb := B.bytes
  have hr := B.returns
  have hts := fun (w : Cond) (h : w ∈ kG) => atoms_spec (ws := kwX11_holdsLine) B.pre w (List.mem_cons_of_mem _ h)
  have hown : s.vm.findClass RX11 = some m.cls := findClass_of_methodNamed B.named
  subst hsz
  have hD := hD0.self (sz := s.heap.size)
  generalize hAe : va_A [(h, oX11 th aw ai ab ac hi re aP ta po en be de fa a5 sp av an ak ne aW aC ag aT aN aF), (aw, kcI cI 2179 fw), (av, kcI cI 400 fv)] s.heap.size = A at hD hE ⊢
  have hA : ∀ q : Nat, s.heap.size ≤ q → A q := fun q h => by rw [← hAe]; exact Or.inr h
  have hl := lv_entry ([.ref h, .int line, .int mm, .int b]) (n := 11) (Nat.le_of_ble_eq_true rfl)
  rw [lg_entry_eq]
  generalize (lg_sl ([.ref h, .int line, .int mm, .int b]) ++ List.replicate (11 - (lg_sl ([.ref h, .int line, .int mm, .int b])).length) Slot.unset).toArray = ls at hl ⊢
  have hl : lv_has ls 11 [(0, .ref h), (1, .int line), (2, .int mm), (3, .int b)] := hl
  obtain ⟨H, hH0⟩ : ∃ H, H = s.heap := ⟨_, rfl⟩
  have hS : va_S A s.heap H [] := by rw [hH0]; exact va_S.rf
  have hP : va_P D vwCl [(h, oX11 th aw ai ab ac hi re aP ta po en be de fa a5 sp av an ak ne aW aC ag aT aN aF), (aw, kcI cI 2179 fw), (av, kcI cI 400 fv)] H := by rw [hH0]; exact hP
  refine kHeap hH0 ?_
  clear hH0
  obtain ⟨_, a9, b9, hA9, hB9, hab9, hb9, hr9⟩ := (H_fw_L : wL fw).2 (cN line) (by have q1 := H_line; have q2 := H_LN; unfold Rg at q1; simp only [cN]; omega)
  refine lv_iconst (v := 0) hx hb dX11_holdsLine_0 (by decide) ?_
  refine lv_istore (lv' := [(4, .int 0), (0, .ref h), (1, .int line), (2, .int mm), (3, .int b)]) hx hb dX11_holdsLine_1 hl (by decide) rfl (fun ls hl => ?_)
  refine lv_sipush (v := 506) hx hb dX11_holdsLine_3 (by decide) ?_
  refine lv_iconst (v := 3) hx hb dX11_holdsLine_6 (by decide) ?_
  refine lv_iload_n hx hb dX11_holdsLine_7 rfl (lv_at hl 2 rfl) ?_
  refine lv_imul hx hb dX11_holdsLine_8 ?_
  refine lv_topi (fun x1 ex1 => ?_)
  have tx1 : x1.toInt = 3 * line.toInt := ti_mul ex1 (rg_lit (n := 3) (by decide)) H_line (by decide) (by decide) rfl
  have k2 : Rg x1 0 33 := rg_mul ex1 (rg_lit (n := 3) (by decide)) H_line (by decide)
  refine lv_iadd hx hb dX11_holdsLine_9 ?_
  refine lv_topi (fun x3 ex3 => ?_)
  have tx3 : x3.toInt = 506 + x1.toInt := ti_add ex3 (rg_lit (n := 506) (by decide)) k2 (by decide) (by decide) rfl
  have k4 : Rg x3 506 539 := rg_add ex3 (rg_lit (n := 506) (by decide)) k2 (by decide)
  refine lv_istore (lv' := [(5, .int x3), (4, .int 0), (0, .ref h), (1, .int line), (2, .int mm), (3, .int b)]) hx hb dX11_holdsLine_10 hl (by decide) rfl (fun ls hl => ?_)
  refine lv_aload_n hx hb dX11_holdsLine_12 rfl (lv_at hl 2 rfl) ?_
  refine va_get (D := D) (ci := 10) (v := .ref aw) (C := RX11) (T := TX11) (N := 26) hx hb hts iG_X11 hown hK hP 0 rfl rfl 1 (by decide) (hts _ w5_3) (fun _ h9 => h9) rfl dX11_holdsLine_13 ?_
  refine lv_iload hx hb dX11_holdsLine_16 (lv_at hl 0 rfl) ?_
  refine lv_iconst (v := 1) hx hb dX11_holdsLine_18 (by decide) ?_
  refine lv_iadd hx hb dX11_holdsLine_19 ?_
  refine lv_topi (fun x5 ex5 => ?_)
  have tx5 : x5.toInt = x3.toInt + 1 := ti_add ex5 k4 (rg_lit (n := 1) (by decide)) (by decide) rfl (by decide)
  have k6 : Rg x5 507 540 := rg_add ex5 k4 (rg_lit (n := 1) (by decide)) (by decide)
  refine va_iald hx hb hK hP 1 0 rfl rfl (rg_in k6 (by decide)) dX11_holdsLine_20 ?_
  refine lv_topi (fun x7 ex7 => ?_)
  have vx7 : x7.toInt = (a9 : Int) := by rw [ex7, cl_of (k := 507 + 3 * cN line) k6 (by decide) (by simp only [cN]; have q8 := k6; have q9 := H_line; unfold Rg at *; omega)]; exact hA9
  have k8 : Rg x7 0 400 := (by have q1 := vx7; exact ⟨by omega, by omega⟩)
  refine lv_istore (lv' := [(6, .int x7), (5, .int x3), (4, .int 0), (0, .ref h), (1, .int line), (2, .int mm), (3, .int b)]) hx hb dX11_holdsLine_21 hl (by decide) rfl (fun ls hl => ?_)
  refine k_loop (hd := 23) (fun (u : Int32 × Int32 × (Nat → Int32)) => match u with | (y386, y387, g388) => (400 - (y386).toInt).toNat) (fun (u : Int32 × Int32 × (Nat → Int32)) (H : Heap) (locs : List Loc) (ls : Array Slot) => match u with | (y386, y387, g388) => (∃ i9 : Nat, (y386 : Int32).toInt = (i9 : Int) ∧ i9 ≤ b9 ∧ rpn fw i9 (b9 - i9) (cN y387) ∧ 0 ≤ (y387 : Int32).toInt) ∧ (F_r_holdsLine (gT fw) (gT fv) line.toInt mm.toInt b.toInt = F_r_holdsLine_l1 (gT fw) mm.toInt b.toInt x3.toInt (y386.toInt, y387.toInt, (gT g388))) ∧ Rg y386 0 400 ∧ Rg y387 0 400 ∧ va_P D vwCl [(h, oX11 th aw ai ab ac hi re aP ta po en be de fa a5 sp av an ak ne aW aC ag aT aN aF), (aw, kcI cI 2179 fw), (av, kcI cI 400 g388)] H ∧ va_D A [(h, oX11 th aw ai ab ac hi re aP ta po en be de fa a5 sp av an ak ne aW aC ag aT aN aF), (aw, kcI cI 2179 fw), (av, kcI cI 400 g388)] ∧ va_S A s.heap H locs ∧ lv_has ls 11 [(6, .int y386), (5, .int x3), (4, .int y387), (0, .ref h), (1, .int line), (2, .int mm), (3, .int b)]) (x7, (0 : Int32), fv) ⟨⟨a9, vx7, hab9, (by have q0 : cN (0 : Int32) = 0 := (by decide); rw [q0]; exact hr9), (by decide)⟩, (kLet_eq (ti_mul ex1 (rg_lit (n := 3) (by decide)) H_line (by decide) rfl rfl) (kLet_eq (ti_add ex3 (rg_lit (n := 506) (by decide)) k2 (by decide) rfl rfl) (kLet_eq (ti_add ex5 k4 (rg_lit (n := 1) (by decide)) (by decide) rfl rfl) (kLet_eq (ke_ld ex7) rfl)))), k8, (rg_w (rg_lit (n := 0) (by decide)) (by decide)), hP.sub (ws' := [(h, oX11 th aw ai ab ac hi re aP ta po en be de fa a5 sp av an ak ne aW aC ag aT aN aF), (aw, kcI cI 2179 fw), (av, kcI cI 400 fv)]) [0, 1, 2] rfl, hD.sub (ws' := [(h, oX11 th aw ai ab ac hi re aP ta po en be de fa a5 sp av an ak ne aW aC ag aT aN aF), (aw, kcI cI 2179 fw), (av, kcI cI 400 fv)]) [0, 1, 2] (by decide) rfl, hS, lv_sub (l' := [(6, .int x7), (5, .int x3), (4, .int 0), (0, .ref h), (1, .int line), (2, .int mm), (3, .int b)]) hl [0, 1, 2, 3, 4, 5, 6] rfl⟩ (fun u H locs ls hI ih389 => ?_)
  clear hP hD hS hl
  obtain ⟨y386, y387, g388⟩ := u
  obtain ⟨hX23_0, hF1, hy386, hy387, hP, hD, hS, hl⟩ := hI
  have hP : va_P D vwCl [(h, oX11 th aw ai ab ac hi re aP ta po en be de fa a5 sp av an ak ne aW aC ag aT aN aF), (aw, kcI cI 2179 fw), (av, kcI cI 400 g388)] H := hP
  have hD : va_D A [(h, oX11 th aw ai ab ac hi re aP ta po en be de fa a5 sp av an ak ne aW aC ag aT aN aF), (aw, kcI cI 2179 fw), (av, kcI cI 400 g388)] := hD
  have hl : lv_has ls 11 [(6, .int y386), (5, .int x3), (4, .int y387), (0, .ref h), (1, .int line), (2, .int mm), (3, .int b)] := hl
  obtain ⟨i9, hI9, hib9, hrp9, hT0⟩ := hX23_0
  refine lv_iload hx hb dX11_holdsLine_23 (lv_at hl 0 rfl) ?_
  refine lv_aload_n hx hb dX11_holdsLine_25 rfl (lv_at hl 3 rfl) ?_
  refine va_get (D := D) (ci := 10) (v := .ref aw) (C := RX11) (T := TX11) (N := 26) hx hb hts iG_X11 hown hK hP 0 rfl rfl 1 (by decide) (hts _ w5_3) (fun _ h9 => h9) rfl dX11_holdsLine_26 ?_
  refine lv_iload hx hb dX11_holdsLine_29 (lv_at hl 1 rfl) ?_
  refine lv_iconst (v := 2) hx hb dX11_holdsLine_31 (by decide) ?_
  refine lv_iadd hx hb dX11_holdsLine_32 ?_
  refine lv_topi (fun x390 ex390 => ?_)
  have tx390 : x390.toInt = x3.toInt + 2 := ti_add ex390 k4 (rg_lit (n := 2) (by decide)) (by decide) rfl (by decide)
  have k391 : Rg x390 508 541 := rg_add ex390 k4 (rg_lit (n := 2) (by decide)) (by decide)
  refine va_iald hx hb hK hP 1 0 rfl rfl (rg_in k391 (by decide)) dX11_holdsLine_33 ?_
  refine lv_topi (fun x392 ex392 => ?_)
  have vx392 : x392.toInt = (b9 : Int) := by rw [ex392, cl_of (k := 508 + 3 * cN line) k391 (by decide) (by simp only [cN]; have q8 := k391; have q9 := H_line; unfold Rg at *; omega)]; exact hB9
  have k393 : Rg x392 0 400 := (by have q1 := vx392; exact ⟨by omega, by omega⟩)
  refine lv_icmp_ge (tgt := 271) hx hb dX11_holdsLine_34 (by decide) (fun c394 => ?_) (fun c394 => ?_)
  · skip
    refine lv_iload hx hb dX11_holdsLine_271 (lv_at hl 2 rfl) ?_
    refine k_join (hd := 286) (cells2 := 0) (slots2 := 0) (fun (_ : Unit) => []) (fun (_ : Unit) (H : Heap) (locs : List Loc) (ls : Array Slot) => (F_r_holdsLine_l1_s (gT fw) mm.toInt b.toInt x3.toInt (y386.toInt, y387.toInt, (gT g388)) = F_r_holdsLine_j2 (gT g388)) ∧ va_P D vwCl [(h, oX11 th aw ai ab ac hi re aP ta po en be de fa a5 sp av an ak ne aW aC ag aT aN aF), (aw, kcI cI 2179 fw), (av, kcI cI 400 g388)] H ∧ va_D A [(h, oX11 th aw ai ab ac hi re aP ta po en be de fa a5 sp av an ak ne aW aC ag aT aN aF), (aw, kcI cI 2179 fw), (av, kcI cI 400 g388)] ∧ va_S A s.heap H locs ∧ lv_has ls 11 [(6, .int y386), (5, .int x3), (4, .int y387), (0, .ref h), (1, .int line), (2, .int mm), (3, .int b)]) (fun u H locs ls hI => ?_) (fun hJ286 => ?_)
    · skip
      clear hP hD hS hl
      obtain ⟨hF2, hP, hD, hS, hl⟩ := hI
      have hP : va_P D vwCl [(h, oX11 th aw ai ab ac hi re aP ta po en be de fa a5 sp av an ak ne aW aC ag aT aN aF), (aw, kcI cI 2179 fw), (av, kcI cI 400 g388)] H := hP
      have hD : va_D A [(h, oX11 th aw ai ab ac hi re aP ta po en be de fa a5 sp av an ak ne aW aC ag aT aN aF), (aw, kcI cI 2179 fw), (av, kcI cI 400 g388)] := hD
      have hl : lv_has ls 11 [(6, .int y386), (5, .int x3), (4, .int y387), (0, .ref h), (1, .int line), (2, .int mm), (3, .int b)] := hl
      refine lv_iconst (v := 1) hx hb dX11_holdsLine_286 (by decide) ?_
      refine lv_goto (tgt := 291) hx hb dX11_holdsLine_287 (by decide) ?_
      have hP9 := hP.sub (ws' := [(h, oX11 th aw ai ab ac hi re aP ta po en be de fa a5 sp av an ak ne aW aC ag aT aN aF), (aw, kcI cI 2179 fw), (av, kcI cI 400 g388)]) [0, 1, 2] rfl
      have hD9 := hD.sub (ws' := [(h, oX11 th aw ai ab ac hi re aP ta po en be de fa a5 sp av an ak ne aW aC ag aT aN aF), (aw, kcI cI 2179 fw), (av, kcI cI 400 g388)]) [0, 1, 2] (by decide) rfl
      exact W.zret (v := 1) hx hb hr (by decide) (fun t ht hW => ⟨⟨1, (g388), rfl, ⟨(rg_w (rg_lit (n := 1) (by decide)) (by decide)), (hF1.trans (kIter_out (hF2.trans rfl)))⟩, by rw [ht]; exact hP9, va_K.moved hW.alike hK, hD9⟩, hS.F ht⟩) hS.2.2 dX11_holdsLine_291
    refine lv_if_eq (tgt := 286) hx hb dX11_holdsLine_273 (by decide) (fun c401 => ?_) (fun c401 => ?_)
    · skip
      have k402 : Rg y387 0 0 := rg_q1 (eqI c401) hy387 (rg_lit (n := 0) (by decide)) (by decide)
      exact hJ286 () _ _ _ ⟨(kC_eq rfl (kC_eq rfl (kLet_eq (ti_add ex390 k4 (rg_lit (n := 2) (by decide)) (by decide) rfl rfl) (kLet_eq (ke_ld ex392) (kif_t (leI c394) (kif_t (eqI c401) rfl)))))), hP.sub (ws' := [(h, oX11 th aw ai ab ac hi re aP ta po en be de fa a5 sp av an ak ne aW aC ag aT aN aF), (aw, kcI cI 2179 fw), (av, kcI cI 400 g388)]) [0, 1, 2] rfl, hD.sub (ws' := [(h, oX11 th aw ai ab ac hi re aP ta po en be de fa a5 sp av an ak ne aW aC ag aT aN aF), (aw, kcI cI 2179 fw), (av, kcI cI 400 g388)]) [0, 1, 2] (by decide) rfl, hS, lv_sub (l' := [(6, .int y386), (5, .int x3), (4, .int y387), (0, .ref h), (1, .int line), (2, .int mm), (3, .int b)]) hl [0, 1, 2, 3, 4, 5, 6] rfl⟩
    · skip
      have k403 : Rg y387 1 400 := rg_n1 (neI c401) hy387 (rg_lit (n := 0) (by decide)) (by decide)
      refine lv_aload_n hx hb dX11_holdsLine_276 rfl (lv_at hl 3 rfl) ?_
      refine va_get (D := D) (ci := 10) (v := .ref av) (C := RX11) (T := TX11) (N := 26) hx hb hts iG_X11 hown hK hP 0 rfl rfl 16 (by decide) (hts _ w5_11) (fun _ h9 => h9) rfl dX11_holdsLine_277 ?_
      refine lv_iconst (v := 0) hx hb dX11_holdsLine_280 (by decide) ?_
      refine va_iald hx hb hK hP 2 0 rfl rfl (rg_in (rg_lit (n := 0) (by decide)) (by decide)) dX11_holdsLine_281 ?_
      refine lv_topi (fun x404 ex404 => ?_)
      refine lv_iconst (v := 1) hx hb dX11_holdsLine_282 (by decide) ?_
      refine lv_icmp_ne (tgt := 290) hx hb dX11_holdsLine_283 (by decide) (fun c405 => ?_) (fun c405 => ?_)
      · skip
        refine lv_iconst (v := 0) hx hb dX11_holdsLine_290 (by decide) ?_
        have hP9 := hP.sub (ws' := [(h, oX11 th aw ai ab ac hi re aP ta po en be de fa a5 sp av an ak ne aW aC ag aT aN aF), (aw, kcI cI 2179 fw), (av, kcI cI 400 g388)]) [0, 1, 2] rfl
        have hD9 := hD.sub (ws' := [(h, oX11 th aw ai ab ac hi re aP ta po en be de fa a5 sp av an ak ne aW aC ag aT aN aF), (aw, kcI cI 2179 fw), (av, kcI cI 400 g388)]) [0, 1, 2] (by decide) rfl
        exact W.zret (v := 0) hx hb hr (by decide) (fun t ht hW => ⟨⟨0, (g388), rfl, ⟨(rg_w (rg_lit (n := 0) (by decide)) (by decide)), (hF1.trans (kIter_out (kC_eq rfl (kC_eq rfl (kLet_eq (ti_add ex390 k4 (rg_lit (n := 2) (by decide)) (by decide) rfl rfl) (kLet_eq (ke_ld ex392) (kif_t (leI c394) (kif_f (neI c401) (kLet_eq (ke_ld ex404) (kif_f (neI c405) rfl))))))))))⟩, by rw [ht]; exact hP9, va_K.moved hW.alike hK, hD9⟩, hS.F ht⟩) hS.2.2 dX11_holdsLine_291
      · skip
        have k406 : Rg x404 1 1 := rg_q1 (eqI c405) (rg_any x404) (rg_lit (n := 1) (by decide)) (by decide)
        exact hJ286 () _ _ _ ⟨(kC_eq rfl (kC_eq rfl (kLet_eq (ti_add ex390 k4 (rg_lit (n := 2) (by decide)) (by decide) rfl rfl) (kLet_eq (ke_ld ex392) (kif_t (leI c394) (kif_f (neI c401) (kLet_eq (ke_ld ex404) (kif_t (eqI c405) rfl)))))))), hP.sub (ws' := [(h, oX11 th aw ai ab ac hi re aP ta po en be de fa a5 sp av an ak ne aW aC ag aT aN aF), (aw, kcI cI 2179 fw), (av, kcI cI 400 g388)]) [0, 1, 2] rfl, hD.sub (ws' := [(h, oX11 th aw ai ab ac hi re aP ta po en be de fa a5 sp av an ak ne aW aC ag aT aN aF), (aw, kcI cI 2179 fw), (av, kcI cI 400 g388)]) [0, 1, 2] (by decide) rfl, hS, lv_sub (l' := [(6, .int y386), (5, .int x3), (4, .int y387), (0, .ref h), (1, .int line), (2, .int mm), (3, .int b)]) hl [0, 1, 2, 3, 4, 5, 6] rfl⟩
  · skip
    have k407 : Rg y386 0 399 := rg_l1 (nleI c394) hy386 k393 (by decide)
    have k408 : Rg x392 1 400 := rg_l2 (nleI c394) hy386 k393 (by decide)
    obtain ⟨n9, hn9⟩ : ∃ n : Nat, b9 - i9 = n + 1 := ⟨b9 - i9 - 1, by have q1 := hI9; have q2 := vx392; have q3 := (nleI c394); omega⟩
    rw [hn9] at hrp9
    obtain ⟨hc9, hp9, hm9, hk9⟩ := hrp9
    refine lv_aload_n hx hb dX11_holdsLine_37 rfl (lv_at hl 3 rfl) ?_
    refine va_get (D := D) (ci := 10) (v := .ref aw) (C := RX11) (T := TX11) (N := 26) hx hb hts iG_X11 hown hK hP 0 rfl rfl 1 (by decide) (hts _ w5_3) (fun _ h9 => h9) rfl dX11_holdsLine_38 ?_
    refine lv_sipush (v := 542) hx hb dX11_holdsLine_41 (by decide) ?_
    refine lv_iconst (v := 2) hx hb dX11_holdsLine_44 (by decide) ?_
    refine lv_iload hx hb dX11_holdsLine_45 (lv_at hl 0 rfl) ?_
    refine lv_imul hx hb dX11_holdsLine_47 ?_
    refine lv_topi (fun x409 ex409 => ?_)
    have tx409 : x409.toInt = 2 * y386.toInt := ti_mul ex409 (rg_lit (n := 2) (by decide)) k407 (by decide) (by decide) rfl
    have k410 : Rg x409 0 798 := rg_mul ex409 (rg_lit (n := 2) (by decide)) k407 (by decide)
    refine lv_iadd hx hb dX11_holdsLine_48 ?_
    refine lv_topi (fun x411 ex411 => ?_)
    have tx411 : x411.toInt = 542 + x409.toInt := ti_add ex411 (rg_lit (n := 542) (by decide)) k410 (by decide) (by decide) rfl
    have k412 : Rg x411 542 1340 := rg_add ex411 (rg_lit (n := 542) (by decide)) k410 (by decide)
    refine va_iald hx hb hK hP 1 0 rfl rfl (rg_in k412 (by decide)) dX11_holdsLine_49 ?_
    refine lv_topi (fun x413 ex413 => ?_)
    have hz9 : x413 = fw (542 + 2 * i9) := by rw [ex413, cl_of (k := 542 + 2 * i9) k412 (by decide) (by have q8 := k412; have q7 := hI9; unfold Rg at *; omega)]
    have k414 : Rg x413 0 18 := (by rw [hz9]; exact hc9)
    refine lv_istore (lv' := [(7, .int x413), (6, .int y386), (5, .int x3), (4, .int y387), (0, .ref h), (1, .int line), (2, .int mm), (3, .int b)]) hx hb dX11_holdsLine_50 hl (by decide) rfl (fun ls hl => ?_)
    refine lv_iload hx hb dX11_holdsLine_52 (lv_at hl 0 rfl) ?_
    refine lv_bipush (v := 12) hx hb dX11_holdsLine_54 (by decide) ?_
    refine lv_icmp_gt (tgt := 95) hx hb dX11_holdsLine_56 (by decide) (fun c480 => ?_) (fun c480 => ?_)
    · skip
      have k481 : Rg x413 13 18 := rg_l2 (ltI c480) (rg_lit (n := 12) (by decide)) k414 (by decide)
      refine lv_iload hx hb dX11_holdsLine_95 (lv_at hl 0 rfl) ?_
      refine lv_bipush (v := 16) hx hb dX11_holdsLine_97 (by decide) ?_
      refine lv_icmp_ne (tgt := 125) hx hb dX11_holdsLine_99 (by decide) (fun c482 => ?_) (fun c482 => ?_)
      · skip
        obtain ⟨hd9, hq9⟩ := hk9 (by rw [← hz9]; have q1 := (ltI c480); have q2 : (12 : Int32).toInt = 12 := (by decide); omega) (by rw [← hz9]; have q1 := neI c482; have q4 : (16 : Int32).toInt = 16 := (by decide); intro q5; omega)
        have k483 : Rg y387 2 400 := (by have q1 := hd9; have q2 := hy387; simp only [cN] at q1; unfold Rg at q2; exact ⟨by omega, by omega⟩)
        obtain ⟨x484, ex484⟩ : ∃ y : Int32, y = y387 + (-1) := ⟨_, rfl⟩
        refine lv_iinc (v := x484) (lv' := [(4, .int x484), (7, .int x413), (6, .int y386), (5, .int x3), (0, .ref h), (1, .int line), (2, .int mm), (3, .int b)]) hx hb dX11_holdsLine_125 hl (k := 3) rfl (by rw [ex484]; rfl) (by decide) rfl (fun ls hl => ?_)
        have k485 : Rg x484 1 399 := rg_add ex484 k483 (rg_lit (n := -1) (by decide)) (by decide)
        refine lv_aload_n hx hb dX11_holdsLine_128 rfl (lv_at hl 4 rfl) ?_
        refine va_get (D := D) (ci := 10) (v := .ref av) (C := RX11) (T := TX11) (N := 26) hx hb hts iG_X11 hown hK hP 0 rfl rfl 16 (by decide) (hts _ w5_11) (fun _ h9 => h9) rfl dX11_holdsLine_129 ?_
        refine lv_iload hx hb dX11_holdsLine_132 (lv_at hl 0 rfl) ?_
        refine lv_iconst (v := 1) hx hb dX11_holdsLine_134 (by decide) ?_
        refine lv_isub hx hb dX11_holdsLine_135 ?_
        refine lv_topi (fun x486 ex486 => ?_)
        have tx486 : x486.toInt = x484.toInt - 1 := ti_sub ex486 k485 (rg_lit (n := 1) (by decide)) (by decide) rfl (by decide)
        have k487 : Rg x486 0 398 := rg_sub ex486 k485 (rg_lit (n := 1) (by decide)) (by decide)
        refine va_iald hx hb hK hP 2 0 rfl rfl (rg_in k487 (by decide)) dX11_holdsLine_136 ?_
        refine lv_topi (fun x488 ex488 => ?_)
        refine lv_istore (lv' := [(8, .int x488), (4, .int x484), (7, .int x413), (6, .int y386), (5, .int x3), (0, .ref h), (1, .int line), (2, .int mm), (3, .int b)]) hx hb dX11_holdsLine_137 hl (by decide) rfl (fun ls hl => ?_)
        refine lv_aload_n hx hb dX11_holdsLine_139 rfl (lv_at hl 5 rfl) ?_
        refine va_get (D := D) (ci := 10) (v := .ref av) (C := RX11) (T := TX11) (N := 26) hx hb hts iG_X11 hown hK hP 0 rfl rfl 16 (by decide) (hts _ w5_11) (fun _ h9 => h9) rfl dX11_holdsLine_140 ?_
        refine lv_iload hx hb dX11_holdsLine_143 (lv_at hl 1 rfl) ?_
        refine va_iald hx hb hK hP 2 0 rfl rfl (rg_in k485 (by decide)) dX11_holdsLine_145 ?_
        refine lv_topi (fun x489 ex489 => ?_)
        refine lv_istore (lv' := [(9, .int x489), (8, .int x488), (4, .int x484), (7, .int x413), (6, .int y386), (5, .int x3), (0, .ref h), (1, .int line), (2, .int mm), (3, .int b)]) hx hb dX11_holdsLine_146 hl (by decide) rfl (fun ls hl => ?_)
        refine lv_iload hx hb dX11_holdsLine_148 (lv_at hl 3 rfl) ?_
        refine lv_bipush (v := 14) hx hb dX11_holdsLine_150 (by decide) ?_
        refine k_join (hd := 229) (cells2 := 0) (slots2 := 0) (fun (z510 : Int32) => [.int z510]) (fun (z510 : Int32) (H : Heap) (locs : List Loc) (ls : Array Slot) => (F_r_holdsLine_l1_s (gT fw) mm.toInt b.toInt x3.toInt (y386.toInt, y387.toInt, (gT g388)) = F_r_holdsLine_j3 y386.toInt (gT g388) x413.toInt x484.toInt x488.toInt x489.toInt z510.toInt) ∧ Rg z510 0 1 ∧ va_P D vwCl [(h, oX11 th aw ai ab ac hi re aP ta po en be de fa a5 sp av an ak ne aW aC ag aT aN aF), (aw, kcI cI 2179 fw), (av, kcI cI 400 g388)] H ∧ va_D A [(h, oX11 th aw ai ab ac hi re aP ta po en be de fa a5 sp av an ak ne aW aC ag aT aN aF), (aw, kcI cI 2179 fw), (av, kcI cI 400 g388)] ∧ va_S A s.heap H locs ∧ lv_has ls 11 [(9, .int x489), (8, .int x488), (4, .int x484), (7, .int x413), (6, .int y386), (5, .int x3), (0, .ref h), (1, .int line), (2, .int mm), (3, .int b)]) (fun u H locs ls hI => ?_) (fun hJ229 => ?_)
        · skip
          clear hP hD hS hl
          obtain ⟨z510, rfl⟩ : ∃ z, z = u := ⟨_, rfl⟩
          obtain ⟨hF3, hz510, hP, hD, hS, hl⟩ := hI
          have hP : va_P D vwCl [(h, oX11 th aw ai ab ac hi re aP ta po en be de fa a5 sp av an ak ne aW aC ag aT aN aF), (aw, kcI cI 2179 fw), (av, kcI cI 400 g388)] H := hP
          have hD : va_D A [(h, oX11 th aw ai ab ac hi re aP ta po en be de fa a5 sp av an ak ne aW aC ag aT aN aF), (aw, kcI cI 2179 fw), (av, kcI cI 400 g388)] := hD
          have hl : lv_has ls 11 [(9, .int x489), (8, .int x488), (4, .int x484), (7, .int x413), (6, .int y386), (5, .int x3), (0, .ref h), (1, .int line), (2, .int mm), (3, .int b)] := hl
          show W _ _ _ _ _ _ _ _ _ _ _ _ _ _ _ (F0 m 229 ls [.int z510])
          refine lv_istore (lv' := [(10, .int z510), (9, .int x489), (8, .int x488), (4, .int x484), (7, .int x413), (6, .int y386), (5, .int x3), (0, .ref h), (1, .int line), (2, .int mm), (3, .int b)]) hx hb dX11_holdsLine_229 hl (by decide) rfl (fun ls hl => ?_)
          refine lv_aload_n hx hb dX11_holdsLine_231 rfl (lv_at hl 7 rfl) ?_
          refine va_get (D := D) (ci := 10) (v := .ref av) (C := RX11) (T := TX11) (N := 26) hx hb hts iG_X11 hown hK hP 0 rfl rfl 16 (by decide) (hts _ w5_11) (fun _ h9 => h9) rfl dX11_holdsLine_232 ?_
          refine lv_iload hx hb dX11_holdsLine_235 (lv_at hl 3 rfl) ?_
          refine lv_iconst (v := 1) hx hb dX11_holdsLine_237 (by decide) ?_
          refine lv_isub hx hb dX11_holdsLine_238 ?_
          refine lv_topi (fun x511 ex511 => ?_)
          have tx511 : x511.toInt = x484.toInt - 1 := ti_sub ex511 k485 (rg_lit (n := 1) (by decide)) (by decide) rfl (by decide)
          have k512 : Rg x511 0 398 := rg_sub ex511 k485 (rg_lit (n := 1) (by decide)) (by decide)
          refine lv_iload hx hb dX11_holdsLine_239 (lv_at hl 4 rfl) ?_
          refine lv_bipush (v := 13) hx hb dX11_holdsLine_241 (by decide) ?_
          refine k_join (hd := 264) (cells2 := 0) (slots2 := 0) (fun (u : Int32 × Int32) => match u with | (z522, z523) => [.int z522, .int z523, .ref av]) (fun (u : Int32 × Int32) (H : Heap) (locs : List Loc) (ls : Array Slot) => match u with | (z522, z523) => (F_r_holdsLine_l1_s (gT fw) mm.toInt b.toInt x3.toInt (y386.toInt, y387.toInt, (gT g388)) = F_r_holdsLine_j4 y386.toInt (gT g388) x484.toInt z522.toInt z523.toInt) ∧ Rg z523 0 398 ∧ va_P D vwCl [(h, oX11 th aw ai ab ac hi re aP ta po en be de fa a5 sp av an ak ne aW aC ag aT aN aF), (aw, kcI cI 2179 fw), (av, kcI cI 400 g388)] H ∧ va_D A [(h, oX11 th aw ai ab ac hi re aP ta po en be de fa a5 sp av an ak ne aW aC ag aT aN aF), (aw, kcI cI 2179 fw), (av, kcI cI 400 g388)] ∧ va_S A s.heap H locs ∧ lv_has ls 11 [(10, .int z510), (9, .int x489), (8, .int x488), (4, .int x484), (7, .int x413), (6, .int y386), (5, .int x3), (0, .ref h), (1, .int line), (2, .int mm), (3, .int b)]) (fun u H locs ls hI => ?_) (fun hJ264 => ?_)
          · skip
            clear hP hD hS hl
            obtain ⟨z522, z523⟩ := u
            obtain ⟨hF4, hz523, hP, hD, hS, hl⟩ := hI
            have hP : va_P D vwCl [(h, oX11 th aw ai ab ac hi re aP ta po en be de fa a5 sp av an ak ne aW aC ag aT aN aF), (aw, kcI cI 2179 fw), (av, kcI cI 400 g388)] H := hP
            have hD : va_D A [(h, oX11 th aw ai ab ac hi re aP ta po en be de fa a5 sp av an ak ne aW aC ag aT aN aF), (aw, kcI cI 2179 fw), (av, kcI cI 400 g388)] := hD
            have hl : lv_has ls 11 [(10, .int z510), (9, .int x489), (8, .int x488), (4, .int x484), (7, .int x413), (6, .int y386), (5, .int x3), (0, .ref h), (1, .int line), (2, .int mm), (3, .int b)] := hl
            show W _ _ _ _ _ _ _ _ _ _ _ _ _ _ _ (F0 m 264 ls [.int z522, .int z523, .ref av])
            refine va_iast hx hb hK hP hD hS 2 0 rfl rfl (rg_in hz523 (by decide)) dX11_holdsLine_264 (fun H locs hP hD hS => ?_)
            have hP : va_P D vwCl [(h, oX11 th aw ai ab ac hi re aP ta po en be de fa a5 sp av an ak ne aW aC ag aT aN aF), (aw, kcI cI 2179 fw), (av, kcI cI 400 (upd g388 z523.toNatClampNeg z522))] H := hP
            have hD : va_D A [(h, oX11 th aw ai ab ac hi re aP ta po en be de fa a5 sp av an ak ne aW aC ag aT aN aF), (aw, kcI cI 2179 fw), (av, kcI cI 400 (upd g388 z523.toNatClampNeg z522))] := hD
            generalize hg524 : (upd g388 z523.toNatClampNeg z522) = g524 at hP hD
            obtain ⟨x525, ex525⟩ : ∃ y : Int32, y = y386 + 1 := ⟨_, rfl⟩
            refine lv_iinc (v := x525) (lv' := [(6, .int x525), (10, .int z510), (9, .int x489), (8, .int x488), (4, .int x484), (7, .int x413), (5, .int x3), (0, .ref h), (1, .int line), (2, .int mm), (3, .int b)]) hx hb dX11_holdsLine_265 hl (k := 5) rfl (by rw [ex525]; rfl) (by decide) rfl (fun ls hl => ?_)
            have k526 : Rg x525 1 400 := rg_add ex525 k407 (rg_lit (n := 1) (by decide)) (by decide)
            refine lv_goto (tgt := 23) hx hb dX11_holdsLine_268 (by decide) ?_
            exact ih389 (x525, x484, g524) _ _ _ (by show (400 - (x525).toInt).toNat < (400 - (y386).toInt).toNat; exact mu_up ex525 k407 k526 (by decide)) ⟨⟨i9 + 1, (by have q3 := ti_add (Y := 1) ex525 k407 (rg_lit (n := 1) (by decide)) (by decide) rfl (by decide); have q7 := hI9; omega), (by omega), (by have q1 : b9 - (i9 + 1) = n9 := (by omega); have q5 := ti_add (Y := -1) ex484 k483 (rg_lit (n := -1) (by decide)) (by decide) rfl (by decide); have q6 := k483; have q4 : cN x484 = cN y387 - 1 := (by simp only [cN]; unfold Rg at q6; omega); rw [q1, q4]; exact hq9), (by have q8 := k485; unfold Rg at q8; omega)⟩, (hF1.trans (kIter_go (hF4.trans (kLet_eq (ke_st hg524) (kLet_eq (ti_add ex525 k407 (rg_lit (n := 1) (by decide)) (by decide) rfl rfl) rfl))))), (rg_w k526 (by decide)), (rg_w k485 (by decide)), hP.sub (ws' := [(h, oX11 th aw ai ab ac hi re aP ta po en be de fa a5 sp av an ak ne aW aC ag aT aN aF), (aw, kcI cI 2179 fw), (av, kcI cI 400 g524)]) [0, 1, 2] rfl, hD.sub (ws' := [(h, oX11 th aw ai ab ac hi re aP ta po en be de fa a5 sp av an ak ne aW aC ag aT aN aF), (aw, kcI cI 2179 fw), (av, kcI cI 400 g524)]) [0, 1, 2] (by decide) rfl, hS, lv_sub (l' := [(6, .int x525), (5, .int x3), (4, .int x484), (0, .ref h), (1, .int line), (2, .int mm), (3, .int b)]) hl [0, 6, 4, 7, 8, 9, 10] rfl⟩
          refine lv_icmp_ne (tgt := 254) hx hb dX11_holdsLine_243 (by decide) (fun c527 => ?_) (fun c527 => ?_)
          · skip
            have k528 : Rg x413 14 18 := rg_n1 (neI c527) k481 (rg_lit (n := 13) (by decide)) (by decide)
            refine lv_iload hx hb dX11_holdsLine_254 (lv_at hl 0 rfl) ?_
            refine lv_if_eq (tgt := 263) hx hb dX11_holdsLine_256 (by decide) (fun c529 => ?_) (fun c529 => ?_)
            · skip
              have k530 : Rg z510 0 0 := rg_q1 (eqI c529) hz510 (rg_lit (n := 0) (by decide)) (by decide)
              refine lv_iconst (v := 0) hx hb dX11_holdsLine_263 (by decide) ?_
              exact hJ264 ((0 : Int32), x511) _ _ _ ⟨(hF3.trans (kLet_eq (ti_sub ex511 k485 (rg_lit (n := 1) (by decide)) (by decide) rfl rfl) (kif_f (neI c527) (kif_t (eqI c529) rfl)))), k512, hP.sub (ws' := [(h, oX11 th aw ai ab ac hi re aP ta po en be de fa a5 sp av an ak ne aW aC ag aT aN aF), (aw, kcI cI 2179 fw), (av, kcI cI 400 g388)]) [0, 1, 2] rfl, hD.sub (ws' := [(h, oX11 th aw ai ab ac hi re aP ta po en be de fa a5 sp av an ak ne aW aC ag aT aN aF), (aw, kcI cI 2179 fw), (av, kcI cI 400 g388)]) [0, 1, 2] (by decide) rfl, hS, lv_sub (l' := [(10, .int z510), (9, .int x489), (8, .int x488), (4, .int x484), (7, .int x413), (6, .int y386), (5, .int x3), (0, .ref h), (1, .int line), (2, .int mm), (3, .int b)]) hl [0, 1, 2, 3, 4, 5, 6, 7, 8, 9, 10] rfl⟩
            · skip
              have k531 : Rg z510 1 1 := rg_n1 (neI c529) hz510 (rg_lit (n := 0) (by decide)) (by decide)
              refine lv_iconst (v := 1) hx hb dX11_holdsLine_259 (by decide) ?_
              refine lv_goto (tgt := 264) hx hb dX11_holdsLine_260 (by decide) ?_
              exact hJ264 ((1 : Int32), x511) _ _ _ ⟨(hF3.trans (kLet_eq (ti_sub ex511 k485 (rg_lit (n := 1) (by decide)) (by decide) rfl rfl) (kif_f (neI c527) (kif_f (neI c529) rfl)))), k512, hP.sub (ws' := [(h, oX11 th aw ai ab ac hi re aP ta po en be de fa a5 sp av an ak ne aW aC ag aT aN aF), (aw, kcI cI 2179 fw), (av, kcI cI 400 g388)]) [0, 1, 2] rfl, hD.sub (ws' := [(h, oX11 th aw ai ab ac hi re aP ta po en be de fa a5 sp av an ak ne aW aC ag aT aN aF), (aw, kcI cI 2179 fw), (av, kcI cI 400 g388)]) [0, 1, 2] (by decide) rfl, hS, lv_sub (l' := [(10, .int z510), (9, .int x489), (8, .int x488), (4, .int x484), (7, .int x413), (6, .int y386), (5, .int x3), (0, .ref h), (1, .int line), (2, .int mm), (3, .int b)]) hl [0, 1, 2, 3, 4, 5, 6, 7, 8, 9, 10] rfl⟩
          · skip
            have k532 : Rg x413 13 13 := rg_q1 (eqI c527) k481 (rg_lit (n := 13) (by decide)) (by decide)
            refine lv_iload hx hb dX11_holdsLine_246 (lv_at hl 2 rfl) ?_
            refine lv_iload hx hb dX11_holdsLine_248 (lv_at hl 1 rfl) ?_
            refine lv_iadd hx hb dX11_holdsLine_250 ?_
            refine lv_topi (fun x533 ex533 => ?_)
            refine lv_goto (tgt := 264) hx hb dX11_holdsLine_251 (by decide) ?_
            exact hJ264 (x533, x511) _ _ _ ⟨(hF3.trans (kLet_eq (ti_sub ex511 k485 (rg_lit (n := 1) (by decide)) (by decide) rfl rfl) (kif_t (eqI c527) (kLet_eq (ke_wadd ex533) rfl)))), k512, hP.sub (ws' := [(h, oX11 th aw ai ab ac hi re aP ta po en be de fa a5 sp av an ak ne aW aC ag aT aN aF), (aw, kcI cI 2179 fw), (av, kcI cI 400 g388)]) [0, 1, 2] rfl, hD.sub (ws' := [(h, oX11 th aw ai ab ac hi re aP ta po en be de fa a5 sp av an ak ne aW aC ag aT aN aF), (aw, kcI cI 2179 fw), (av, kcI cI 400 g388)]) [0, 1, 2] (by decide) rfl, hS, lv_sub (l' := [(10, .int z510), (9, .int x489), (8, .int x488), (4, .int x484), (7, .int x413), (6, .int y386), (5, .int x3), (0, .ref h), (1, .int line), (2, .int mm), (3, .int b)]) hl [0, 1, 2, 3, 4, 5, 6, 7, 8, 9, 10] rfl⟩
        refine lv_icmp_ne (tgt := 170) hx hb dX11_holdsLine_152 (by decide) (fun c534 => ?_) (fun c534 => ?_)
        · skip
          refine lv_iload hx hb dX11_holdsLine_170 (lv_at hl 3 rfl) ?_
          refine lv_bipush (v := 15) hx hb dX11_holdsLine_172 (by decide) ?_
          refine lv_icmp_ne (tgt := 192) hx hb dX11_holdsLine_174 (by decide) (fun c535 => ?_) (fun c535 => ?_)
          · skip
            refine lv_iload hx hb dX11_holdsLine_192 (lv_at hl 3 rfl) ?_
            refine lv_bipush (v := 17) hx hb dX11_holdsLine_194 (by decide) ?_
            refine lv_icmp_ne (tgt := 216) hx hb dX11_holdsLine_196 (by decide) (fun c536 => ?_) (fun c536 => ?_)
            · skip
              refine lv_iload hx hb dX11_holdsLine_216 (lv_at hl 1 rfl) ?_
              refine lv_iload hx hb dX11_holdsLine_218 (lv_at hl 0 rfl) ?_
              refine lv_iadd hx hb dX11_holdsLine_220 ?_
              refine lv_topi (fun x537 ex537 => ?_)
              refine lv_if_le (tgt := 228) hx hb dX11_holdsLine_221 (by decide) (fun c538 => ?_) (fun c538 => ?_)
              · skip
                have k539 : Rg x537 (-2147483648) 0 := rg_e1 (leI c538) (rg_any x537) (rg_lit (n := 0) (by decide)) (by decide)
                refine lv_iconst (v := 0) hx hb dX11_holdsLine_228 (by decide) ?_
                exact hJ229 ((0 : Int32)) _ _ _ ⟨(kC_eq rfl (kC_eq rfl (kLet_eq (ti_add ex390 k4 (rg_lit (n := 2) (by decide)) (by decide) rfl rfl) (kLet_eq (ke_ld ex392) (kif_f (xF_le c394) (kLet_eq (ti_mul ex409 (rg_lit (n := 2) (by decide)) k407 (by decide) rfl rfl) (kLet_eq (ti_add ex411 (rg_lit (n := 542) (by decide)) k410 (by decide) rfl rfl) (kLet_eq (ke_ld ex413) (kif_t (ltI c480) (kif_f (neI c482) (kLet_eq (ti_add ex484 k483 (rg_lit (n := -1) (by decide)) (by decide) rfl rfl) (kLet_eq (ti_sub ex486 k485 (rg_lit (n := 1) (by decide)) (by decide) rfl rfl) (kLet_eq (ke_ld ex488) (kLet_eq (ke_ld ex489) (kif_f (neI c534) (kif_f (neI c535) (kif_f (neI c536) (kLet_eq (ke_wadd ex537) (kif_t (leI c538) rfl))))))))))))))))))), (rg_w (rg_lit (n := 0) (by decide)) (by decide)), hP.sub (ws' := [(h, oX11 th aw ai ab ac hi re aP ta po en be de fa a5 sp av an ak ne aW aC ag aT aN aF), (aw, kcI cI 2179 fw), (av, kcI cI 400 g388)]) [0, 1, 2] rfl, hD.sub (ws' := [(h, oX11 th aw ai ab ac hi re aP ta po en be de fa a5 sp av an ak ne aW aC ag aT aN aF), (aw, kcI cI 2179 fw), (av, kcI cI 400 g388)]) [0, 1, 2] (by decide) rfl, hS, lv_sub (l' := [(9, .int x489), (8, .int x488), (4, .int x484), (7, .int x413), (6, .int y386), (5, .int x3), (0, .ref h), (1, .int line), (2, .int mm), (3, .int b)]) hl [0, 1, 2, 3, 4, 5, 6, 7, 8, 9] rfl⟩
              · skip
                have k540 : Rg x537 1 2147483647 := rg_l2 (nleI c538) (rg_lit (n := 0) (by decide)) (rg_any x537) (by decide)
                refine lv_iconst (v := 1) hx hb dX11_holdsLine_224 (by decide) ?_
                refine lv_goto (tgt := 229) hx hb dX11_holdsLine_225 (by decide) ?_
                exact hJ229 ((1 : Int32)) _ _ _ ⟨(kC_eq rfl (kC_eq rfl (kLet_eq (ti_add ex390 k4 (rg_lit (n := 2) (by decide)) (by decide) rfl rfl) (kLet_eq (ke_ld ex392) (kif_f (xF_le c394) (kLet_eq (ti_mul ex409 (rg_lit (n := 2) (by decide)) k407 (by decide) rfl rfl) (kLet_eq (ti_add ex411 (rg_lit (n := 542) (by decide)) k410 (by decide) rfl rfl) (kLet_eq (ke_ld ex413) (kif_t (ltI c480) (kif_f (neI c482) (kLet_eq (ti_add ex484 k483 (rg_lit (n := -1) (by decide)) (by decide) rfl rfl) (kLet_eq (ti_sub ex486 k485 (rg_lit (n := 1) (by decide)) (by decide) rfl rfl) (kLet_eq (ke_ld ex488) (kLet_eq (ke_ld ex489) (kif_f (neI c534) (kif_f (neI c535) (kif_f (neI c536) (kLet_eq (ke_wadd ex537) (kif_f (xF_le c538) rfl))))))))))))))))))), (rg_w (rg_lit (n := 1) (by decide)) (by decide)), hP.sub (ws' := [(h, oX11 th aw ai ab ac hi re aP ta po en be de fa a5 sp av an ak ne aW aC ag aT aN aF), (aw, kcI cI 2179 fw), (av, kcI cI 400 g388)]) [0, 1, 2] rfl, hD.sub (ws' := [(h, oX11 th aw ai ab ac hi re aP ta po en be de fa a5 sp av an ak ne aW aC ag aT aN aF), (aw, kcI cI 2179 fw), (av, kcI cI 400 g388)]) [0, 1, 2] (by decide) rfl, hS, lv_sub (l' := [(9, .int x489), (8, .int x488), (4, .int x484), (7, .int x413), (6, .int y386), (5, .int x3), (0, .ref h), (1, .int line), (2, .int mm), (3, .int b)]) hl [0, 1, 2, 3, 4, 5, 6, 7, 8, 9] rfl⟩
            · skip
              have k541 : Rg x413 17 17 := rg_q1 (eqI c536) k481 (rg_lit (n := 17) (by decide)) (by decide)
              refine lv_iload hx hb dX11_holdsLine_199 (lv_at hl 1 rfl) ?_
              refine lv_iload hx hb dX11_holdsLine_201 (lv_at hl 0 rfl) ?_
              refine lv_iadd hx hb dX11_holdsLine_203 ?_
              refine lv_topi (fun x542 ex542 => ?_)
              refine lv_iconst (v := 2) hx hb dX11_holdsLine_204 (by decide) ?_
              refine lv_icmp_ne (tgt := 212) hx hb dX11_holdsLine_205 (by decide) (fun c543 => ?_) (fun c543 => ?_)
              · skip
                refine lv_iconst (v := 0) hx hb dX11_holdsLine_212 (by decide) ?_
                refine lv_goto (tgt := 229) hx hb dX11_holdsLine_213 (by decide) ?_
                exact hJ229 ((0 : Int32)) _ _ _ ⟨(kC_eq rfl (kC_eq rfl (kLet_eq (ti_add ex390 k4 (rg_lit (n := 2) (by decide)) (by decide) rfl rfl) (kLet_eq (ke_ld ex392) (kif_f (xF_le c394) (kLet_eq (ti_mul ex409 (rg_lit (n := 2) (by decide)) k407 (by decide) rfl rfl) (kLet_eq (ti_add ex411 (rg_lit (n := 542) (by decide)) k410 (by decide) rfl rfl) (kLet_eq (ke_ld ex413) (kif_t (ltI c480) (kif_f (neI c482) (kLet_eq (ti_add ex484 k483 (rg_lit (n := -1) (by decide)) (by decide) rfl rfl) (kLet_eq (ti_sub ex486 k485 (rg_lit (n := 1) (by decide)) (by decide) rfl rfl) (kLet_eq (ke_ld ex488) (kLet_eq (ke_ld ex489) (kif_f (neI c534) (kif_f (neI c535) (kif_t (eqI c536) (kLet_eq (ke_wadd ex542) (kif_f (neI c543) rfl))))))))))))))))))), (rg_w (rg_lit (n := 0) (by decide)) (by decide)), hP.sub (ws' := [(h, oX11 th aw ai ab ac hi re aP ta po en be de fa a5 sp av an ak ne aW aC ag aT aN aF), (aw, kcI cI 2179 fw), (av, kcI cI 400 g388)]) [0, 1, 2] rfl, hD.sub (ws' := [(h, oX11 th aw ai ab ac hi re aP ta po en be de fa a5 sp av an ak ne aW aC ag aT aN aF), (aw, kcI cI 2179 fw), (av, kcI cI 400 g388)]) [0, 1, 2] (by decide) rfl, hS, lv_sub (l' := [(9, .int x489), (8, .int x488), (4, .int x484), (7, .int x413), (6, .int y386), (5, .int x3), (0, .ref h), (1, .int line), (2, .int mm), (3, .int b)]) hl [0, 1, 2, 3, 4, 5, 6, 7, 8, 9] rfl⟩
              · skip
                have k544 : Rg x542 2 2 := rg_q1 (eqI c543) (rg_any x542) (rg_lit (n := 2) (by decide)) (by decide)
                refine lv_iconst (v := 1) hx hb dX11_holdsLine_208 (by decide) ?_
                refine lv_goto (tgt := 229) hx hb dX11_holdsLine_209 (by decide) ?_
                exact hJ229 ((1 : Int32)) _ _ _ ⟨(kC_eq rfl (kC_eq rfl (kLet_eq (ti_add ex390 k4 (rg_lit (n := 2) (by decide)) (by decide) rfl rfl) (kLet_eq (ke_ld ex392) (kif_f (xF_le c394) (kLet_eq (ti_mul ex409 (rg_lit (n := 2) (by decide)) k407 (by decide) rfl rfl) (kLet_eq (ti_add ex411 (rg_lit (n := 542) (by decide)) k410 (by decide) rfl rfl) (kLet_eq (ke_ld ex413) (kif_t (ltI c480) (kif_f (neI c482) (kLet_eq (ti_add ex484 k483 (rg_lit (n := -1) (by decide)) (by decide) rfl rfl) (kLet_eq (ti_sub ex486 k485 (rg_lit (n := 1) (by decide)) (by decide) rfl rfl) (kLet_eq (ke_ld ex488) (kLet_eq (ke_ld ex489) (kif_f (neI c534) (kif_f (neI c535) (kif_t (eqI c536) (kLet_eq (ke_wadd ex542) (kif_t (eqI c543) rfl))))))))))))))))))), (rg_w (rg_lit (n := 1) (by decide)) (by decide)), hP.sub (ws' := [(h, oX11 th aw ai ab ac hi re aP ta po en be de fa a5 sp av an ak ne aW aC ag aT aN aF), (aw, kcI cI 2179 fw), (av, kcI cI 400 g388)]) [0, 1, 2] rfl, hD.sub (ws' := [(h, oX11 th aw ai ab ac hi re aP ta po en be de fa a5 sp av an ak ne aW aC ag aT aN aF), (aw, kcI cI 2179 fw), (av, kcI cI 400 g388)]) [0, 1, 2] (by decide) rfl, hS, lv_sub (l' := [(9, .int x489), (8, .int x488), (4, .int x484), (7, .int x413), (6, .int y386), (5, .int x3), (0, .ref h), (1, .int line), (2, .int mm), (3, .int b)]) hl [0, 1, 2, 3, 4, 5, 6, 7, 8, 9] rfl⟩
          · skip
            have k545 : Rg x413 15 15 := rg_q1 (eqI c535) k481 (rg_lit (n := 15) (by decide)) (by decide)
            refine lv_iload hx hb dX11_holdsLine_177 (lv_at hl 1 rfl) ?_
            refine lv_iload hx hb dX11_holdsLine_179 (lv_at hl 0 rfl) ?_
            refine lv_icmp_le (tgt := 188) hx hb dX11_holdsLine_181 (by decide) (fun c546 => ?_) (fun c546 => ?_)
            · skip
              refine lv_iconst (v := 0) hx hb dX11_holdsLine_188 (by decide) ?_
              refine lv_goto (tgt := 229) hx hb dX11_holdsLine_189 (by decide) ?_
              exact hJ229 ((0 : Int32)) _ _ _ ⟨(kC_eq rfl (kC_eq rfl (kLet_eq (ti_add ex390 k4 (rg_lit (n := 2) (by decide)) (by decide) rfl rfl) (kLet_eq (ke_ld ex392) (kif_f (xF_le c394) (kLet_eq (ti_mul ex409 (rg_lit (n := 2) (by decide)) k407 (by decide) rfl rfl) (kLet_eq (ti_add ex411 (rg_lit (n := 542) (by decide)) k410 (by decide) rfl rfl) (kLet_eq (ke_ld ex413) (kif_t (ltI c480) (kif_f (neI c482) (kLet_eq (ti_add ex484 k483 (rg_lit (n := -1) (by decide)) (by decide) rfl rfl) (kLet_eq (ti_sub ex486 k485 (rg_lit (n := 1) (by decide)) (by decide) rfl rfl) (kLet_eq (ke_ld ex488) (kLet_eq (ke_ld ex489) (kif_f (neI c534) (kif_t (eqI c535) (kif_t (leI c546) rfl))))))))))))))))), (rg_w (rg_lit (n := 0) (by decide)) (by decide)), hP.sub (ws' := [(h, oX11 th aw ai ab ac hi re aP ta po en be de fa a5 sp av an ak ne aW aC ag aT aN aF), (aw, kcI cI 2179 fw), (av, kcI cI 400 g388)]) [0, 1, 2] rfl, hD.sub (ws' := [(h, oX11 th aw ai ab ac hi re aP ta po en be de fa a5 sp av an ak ne aW aC ag aT aN aF), (aw, kcI cI 2179 fw), (av, kcI cI 400 g388)]) [0, 1, 2] (by decide) rfl, hS, lv_sub (l' := [(9, .int x489), (8, .int x488), (4, .int x484), (7, .int x413), (6, .int y386), (5, .int x3), (0, .ref h), (1, .int line), (2, .int mm), (3, .int b)]) hl [0, 1, 2, 3, 4, 5, 6, 7, 8, 9] rfl⟩
            · skip
              have k547 : Rg x488 (-2147483647) 2147483647 := rg_l2 (nleI c546) (rg_any x489) (rg_any x488) (by decide)
              have k548 : Rg x489 (-2147483648) 2147483646 := rg_l1 (nleI c546) (rg_any x489) (rg_any x488) (by decide)
              refine lv_iconst (v := 1) hx hb dX11_holdsLine_184 (by decide) ?_
              refine lv_goto (tgt := 229) hx hb dX11_holdsLine_185 (by decide) ?_
              exact hJ229 ((1 : Int32)) _ _ _ ⟨(kC_eq rfl (kC_eq rfl (kLet_eq (ti_add ex390 k4 (rg_lit (n := 2) (by decide)) (by decide) rfl rfl) (kLet_eq (ke_ld ex392) (kif_f (xF_le c394) (kLet_eq (ti_mul ex409 (rg_lit (n := 2) (by decide)) k407 (by decide) rfl rfl) (kLet_eq (ti_add ex411 (rg_lit (n := 542) (by decide)) k410 (by decide) rfl rfl) (kLet_eq (ke_ld ex413) (kif_t (ltI c480) (kif_f (neI c482) (kLet_eq (ti_add ex484 k483 (rg_lit (n := -1) (by decide)) (by decide) rfl rfl) (kLet_eq (ti_sub ex486 k485 (rg_lit (n := 1) (by decide)) (by decide) rfl rfl) (kLet_eq (ke_ld ex488) (kLet_eq (ke_ld ex489) (kif_f (neI c534) (kif_t (eqI c535) (kif_f (xF_le c546) rfl))))))))))))))))), (rg_w (rg_lit (n := 1) (by decide)) (by decide)), hP.sub (ws' := [(h, oX11 th aw ai ab ac hi re aP ta po en be de fa a5 sp av an ak ne aW aC ag aT aN aF), (aw, kcI cI 2179 fw), (av, kcI cI 400 g388)]) [0, 1, 2] rfl, hD.sub (ws' := [(h, oX11 th aw ai ab ac hi re aP ta po en be de fa a5 sp av an ak ne aW aC ag aT aN aF), (aw, kcI cI 2179 fw), (av, kcI cI 400 g388)]) [0, 1, 2] (by decide) rfl, hS, lv_sub (l' := [(9, .int x489), (8, .int x488), (4, .int x484), (7, .int x413), (6, .int y386), (5, .int x3), (0, .ref h), (1, .int line), (2, .int mm), (3, .int b)]) hl [0, 1, 2, 3, 4, 5, 6, 7, 8, 9] rfl⟩
        · skip
          have k549 : Rg x413 14 14 := rg_q1 (eqI c534) k481 (rg_lit (n := 14) (by decide)) (by decide)
          refine lv_iload hx hb dX11_holdsLine_155 (lv_at hl 1 rfl) ?_
          refine lv_iload hx hb dX11_holdsLine_157 (lv_at hl 0 rfl) ?_
          refine lv_icmp_ge (tgt := 166) hx hb dX11_holdsLine_159 (by decide) (fun c550 => ?_) (fun c550 => ?_)
          · skip
            refine lv_iconst (v := 0) hx hb dX11_holdsLine_166 (by decide) ?_
            refine lv_goto (tgt := 229) hx hb dX11_holdsLine_167 (by decide) ?_
            exact hJ229 ((0 : Int32)) _ _ _ ⟨(kC_eq rfl (kC_eq rfl (kLet_eq (ti_add ex390 k4 (rg_lit (n := 2) (by decide)) (by decide) rfl rfl) (kLet_eq (ke_ld ex392) (kif_f (xF_le c394) (kLet_eq (ti_mul ex409 (rg_lit (n := 2) (by decide)) k407 (by decide) rfl rfl) (kLet_eq (ti_add ex411 (rg_lit (n := 542) (by decide)) k410 (by decide) rfl rfl) (kLet_eq (ke_ld ex413) (kif_t (ltI c480) (kif_f (neI c482) (kLet_eq (ti_add ex484 k483 (rg_lit (n := -1) (by decide)) (by decide) rfl rfl) (kLet_eq (ti_sub ex486 k485 (rg_lit (n := 1) (by decide)) (by decide) rfl rfl) (kLet_eq (ke_ld ex488) (kLet_eq (ke_ld ex489) (kif_t (eqI c534) (kif_t (leI c550) rfl)))))))))))))))), (rg_w (rg_lit (n := 0) (by decide)) (by decide)), hP.sub (ws' := [(h, oX11 th aw ai ab ac hi re aP ta po en be de fa a5 sp av an ak ne aW aC ag aT aN aF), (aw, kcI cI 2179 fw), (av, kcI cI 400 g388)]) [0, 1, 2] rfl, hD.sub (ws' := [(h, oX11 th aw ai ab ac hi re aP ta po en be de fa a5 sp av an ak ne aW aC ag aT aN aF), (aw, kcI cI 2179 fw), (av, kcI cI 400 g388)]) [0, 1, 2] (by decide) rfl, hS, lv_sub (l' := [(9, .int x489), (8, .int x488), (4, .int x484), (7, .int x413), (6, .int y386), (5, .int x3), (0, .ref h), (1, .int line), (2, .int mm), (3, .int b)]) hl [0, 1, 2, 3, 4, 5, 6, 7, 8, 9] rfl⟩
          · skip
            have k551 : Rg x488 (-2147483648) 2147483646 := rg_l1 (nleI c550) (rg_any x488) (rg_any x489) (by decide)
            have k552 : Rg x489 (-2147483647) 2147483647 := rg_l2 (nleI c550) (rg_any x488) (rg_any x489) (by decide)
            refine lv_iconst (v := 1) hx hb dX11_holdsLine_162 (by decide) ?_
            refine lv_goto (tgt := 229) hx hb dX11_holdsLine_163 (by decide) ?_
            exact hJ229 ((1 : Int32)) _ _ _ ⟨(kC_eq rfl (kC_eq rfl (kLet_eq (ti_add ex390 k4 (rg_lit (n := 2) (by decide)) (by decide) rfl rfl) (kLet_eq (ke_ld ex392) (kif_f (xF_le c394) (kLet_eq (ti_mul ex409 (rg_lit (n := 2) (by decide)) k407 (by decide) rfl rfl) (kLet_eq (ti_add ex411 (rg_lit (n := 542) (by decide)) k410 (by decide) rfl rfl) (kLet_eq (ke_ld ex413) (kif_t (ltI c480) (kif_f (neI c482) (kLet_eq (ti_add ex484 k483 (rg_lit (n := -1) (by decide)) (by decide) rfl rfl) (kLet_eq (ti_sub ex486 k485 (rg_lit (n := 1) (by decide)) (by decide) rfl rfl) (kLet_eq (ke_ld ex488) (kLet_eq (ke_ld ex489) (kif_t (eqI c534) (kif_f (xF_le c550) rfl)))))))))))))))), (rg_w (rg_lit (n := 1) (by decide)) (by decide)), hP.sub (ws' := [(h, oX11 th aw ai ab ac hi re aP ta po en be de fa a5 sp av an ak ne aW aC ag aT aN aF), (aw, kcI cI 2179 fw), (av, kcI cI 400 g388)]) [0, 1, 2] rfl, hD.sub (ws' := [(h, oX11 th aw ai ab ac hi re aP ta po en be de fa a5 sp av an ak ne aW aC ag aT aN aF), (aw, kcI cI 2179 fw), (av, kcI cI 400 g388)]) [0, 1, 2] (by decide) rfl, hS, lv_sub (l' := [(9, .int x489), (8, .int x488), (4, .int x484), (7, .int x413), (6, .int y386), (5, .int x3), (0, .ref h), (1, .int line), (2, .int mm), (3, .int b)]) hl [0, 1, 2, 3, 4, 5, 6, 7, 8, 9] rfl⟩
      · skip
        have k553 : Rg x413 16 16 := rg_q1 (eqI c482) k481 (rg_lit (n := 16) (by decide)) (by decide)
        obtain ⟨hd9, hq9⟩ := hm9 (by rw [← hz9]; have q1 := (eqI c482); have q4 : (16 : Int32).toInt = 16 := (by decide); omega)
        have k554 : Rg y387 1 400 := (by have q1 := hd9; have q2 := hy387; simp only [cN] at q1; unfold Rg at q2; exact ⟨by omega, by omega⟩)
        refine lv_aload_n hx hb dX11_holdsLine_102 rfl (lv_at hl 4 rfl) ?_
        refine va_get (D := D) (ci := 10) (v := .ref av) (C := RX11) (T := TX11) (N := 26) hx hb hts iG_X11 hown hK hP 0 rfl rfl 16 (by decide) (hts _ w5_11) (fun _ h9 => h9) rfl dX11_holdsLine_103 ?_
        refine lv_iload hx hb dX11_holdsLine_106 (lv_at hl 3 rfl) ?_
        refine lv_iconst (v := 1) hx hb dX11_holdsLine_108 (by decide) ?_
        refine lv_isub hx hb dX11_holdsLine_109 ?_
        refine lv_topi (fun x555 ex555 => ?_)
        have tx555 : x555.toInt = y387.toInt - 1 := ti_sub ex555 k554 (rg_lit (n := 1) (by decide)) (by decide) rfl (by decide)
        have k556 : Rg x555 0 399 := rg_sub ex555 k554 (rg_lit (n := 1) (by decide)) (by decide)
        refine lv_iconst (v := 1) hx hb dX11_holdsLine_110 (by decide) ?_
        refine lv_aload_n hx hb dX11_holdsLine_111 rfl (lv_at hl 4 rfl) ?_
        refine va_get (D := D) (ci := 10) (v := .ref av) (C := RX11) (T := TX11) (N := 26) hx hb hts iG_X11 hown hK hP 0 rfl rfl 16 (by decide) (hts _ w5_11) (fun _ h9 => h9) rfl dX11_holdsLine_112 ?_
        refine lv_iload hx hb dX11_holdsLine_115 (lv_at hl 3 rfl) ?_
        refine lv_iconst (v := 1) hx hb dX11_holdsLine_117 (by decide) ?_
        refine lv_isub hx hb dX11_holdsLine_118 ?_
        refine lv_topi (fun x557 ex557 => ?_)
        have tx557 : x557.toInt = y387.toInt - 1 := ti_sub ex557 k554 (rg_lit (n := 1) (by decide)) (by decide) rfl (by decide)
        have k558 : Rg x557 0 399 := rg_sub ex557 k554 (rg_lit (n := 1) (by decide)) (by decide)
        refine va_iald hx hb hK hP 2 0 rfl rfl (rg_in k558 (by decide)) dX11_holdsLine_119 ?_
        refine lv_topi (fun x559 ex559 => ?_)
        refine lv_isub hx hb dX11_holdsLine_120 ?_
        refine lv_topi (fun x560 ex560 => ?_)
        refine va_iast hx hb hK hP hD hS 2 0 rfl rfl (rg_in k556 (by decide)) dX11_holdsLine_121 (fun H locs hP hD hS => ?_)
        have hP : va_P D vwCl [(h, oX11 th aw ai ab ac hi re aP ta po en be de fa a5 sp av an ak ne aW aC ag aT aN aF), (aw, kcI cI 2179 fw), (av, kcI cI 400 (upd g388 x555.toNatClampNeg x560))] H := hP
        have hD : va_D A [(h, oX11 th aw ai ab ac hi re aP ta po en be de fa a5 sp av an ak ne aW aC ag aT aN aF), (aw, kcI cI 2179 fw), (av, kcI cI 400 (upd g388 x555.toNatClampNeg x560))] := hD
        generalize hg561 : (upd g388 x555.toNatClampNeg x560) = g561 at hP hD
        refine lv_goto (tgt := 265) hx hb dX11_holdsLine_122 (by decide) ?_
        obtain ⟨x562, ex562⟩ : ∃ y : Int32, y = y386 + 1 := ⟨_, rfl⟩
        refine lv_iinc (v := x562) (lv' := [(6, .int x562), (7, .int x413), (5, .int x3), (4, .int y387), (0, .ref h), (1, .int line), (2, .int mm), (3, .int b)]) hx hb dX11_holdsLine_265 hl (k := 1) rfl (by rw [ex562]; rfl) (by decide) rfl (fun ls hl => ?_)
        have k563 : Rg x562 1 400 := rg_add ex562 k407 (rg_lit (n := 1) (by decide)) (by decide)
        refine lv_goto (tgt := 23) hx hb dX11_holdsLine_268 (by decide) ?_
        exact ih389 (x562, y387, g561) _ _ _ (by show (400 - (x562).toInt).toNat < (400 - (y386).toInt).toNat; exact mu_up ex562 k407 k563 (by decide)) ⟨⟨i9 + 1, (by have q3 := ti_add (Y := 1) ex562 k407 (rg_lit (n := 1) (by decide)) (by decide) rfl (by decide); have q7 := hI9; omega), (by omega), (by have q1 : b9 - (i9 + 1) = n9 := (by omega); have q4 : cN y387 = cN y387 := rfl; rw [q1, q4]; exact hq9), (by have q8 := k554; unfold Rg at q8; omega)⟩, (hF1.trans (kIter_go (kC_eq rfl (kC_eq rfl (kLet_eq (ti_add ex390 k4 (rg_lit (n := 2) (by decide)) (by decide) rfl rfl) (kLet_eq (ke_ld ex392) (kif_f (xF_le c394) (kLet_eq (ti_mul ex409 (rg_lit (n := 2) (by decide)) k407 (by decide) rfl rfl) (kLet_eq (ti_add ex411 (rg_lit (n := 542) (by decide)) k410 (by decide) rfl rfl) (kLet_eq (ke_ld ex413) (kif_t (ltI c480) (kif_t (eqI c482) (kLet_eq (ti_sub ex555 k554 (rg_lit (n := 1) (by decide)) (by decide) rfl rfl) (kLet_eq (ti_sub ex557 k554 (rg_lit (n := 1) (by decide)) (by decide) rfl rfl) (kLet_eq (ke_ld ex559) (kLet_eq (ke_wsub ex560) (kLet_eq (ke_st hg561) (kLet_eq (ti_add ex562 k407 (rg_lit (n := 1) (by decide)) (by decide) rfl rfl) rfl)))))))))))))))))), (rg_w k563 (by decide)), (rg_w k554 (by decide)), hP.sub (ws' := [(h, oX11 th aw ai ab ac hi re aP ta po en be de fa a5 sp av an ak ne aW aC ag aT aN aF), (aw, kcI cI 2179 fw), (av, kcI cI 400 g561)]) [0, 1, 2] rfl, hD.sub (ws' := [(h, oX11 th aw ai ab ac hi re aP ta po en be de fa a5 sp av an ak ne aW aC ag aT aN aF), (aw, kcI cI 2179 fw), (av, kcI cI 400 g561)]) [0, 1, 2] (by decide) rfl, hS, lv_sub (l' := [(6, .int x562), (5, .int x3), (4, .int y387), (0, .ref h), (1, .int line), (2, .int mm), (3, .int b)]) hl [0, 2, 3, 4, 5, 6, 7] rfl⟩
    · skip
      have k564 : Rg x413 0 12 := rg_e1 (nltI c480) k414 (rg_lit (n := 12) (by decide)) (by decide)
      obtain ⟨hd9, hq9⟩ := hp9 (by rw [← hz9]; have q1 := (nltI c480); have q2 : (12 : Int32).toInt = 12 := (by decide); omega)
      have k565 : Rg y387 0 399 := (by have q1 := hd9; have q2 := hT0; simp only [cN] at q1; exact ⟨by omega, by omega⟩)
      refine lv_aload_n hx hb dX11_holdsLine_59 rfl (lv_at hl 4 rfl) ?_
      refine va_get (D := D) (ci := 10) (v := .ref av) (C := RX11) (T := TX11) (N := 26) hx hb hts iG_X11 hown hK hP 0 rfl rfl 16 (by decide) (hts _ w5_11) (fun _ h9 => h9) rfl dX11_holdsLine_60 ?_
      refine lv_iload hx hb dX11_holdsLine_63 (lv_at hl 3 rfl) ?_
      refine lv_aload_n hx hb dX11_holdsLine_65 rfl (lv_at hl 4 rfl) ?_
      refine lv_iload hx hb dX11_holdsLine_66 (lv_at hl 0 rfl) ?_
      refine lv_aload_n hx hb dX11_holdsLine_68 rfl (lv_at hl 4 rfl) ?_
      refine va_get (D := D) (ci := 10) (v := .ref aw) (C := RX11) (T := TX11) (N := 26) hx hb hts iG_X11 hown hK hP 0 rfl rfl 1 (by decide) (hts _ w5_3) (fun _ h9 => h9) rfl dX11_holdsLine_69 ?_
      refine lv_sipush (v := 542) hx hb dX11_holdsLine_72 (by decide) ?_
      refine lv_iconst (v := 2) hx hb dX11_holdsLine_75 (by decide) ?_
      refine lv_iload hx hb dX11_holdsLine_76 (lv_at hl 1 rfl) ?_
      refine lv_imul hx hb dX11_holdsLine_78 ?_
      refine lv_topi (fun x566 ex566 => ?_)
      have tx566 : x566.toInt = 2 * y386.toInt := ti_mul ex566 (rg_lit (n := 2) (by decide)) k407 (by decide) (by decide) rfl
      have k567 : Rg x566 0 798 := rg_mul ex566 (rg_lit (n := 2) (by decide)) k407 (by decide)
      refine lv_iadd hx hb dX11_holdsLine_79 ?_
      refine lv_topi (fun x568 ex568 => ?_)
      have tx568 : x568.toInt = 542 + x566.toInt := ti_add ex568 (rg_lit (n := 542) (by decide)) k567 (by decide) (by decide) rfl
      have k569 : Rg x568 542 1340 := rg_add ex568 (rg_lit (n := 542) (by decide)) k567 (by decide)
      refine lv_iconst (v := 1) hx hb dX11_holdsLine_80 (by decide) ?_
      refine lv_iadd hx hb dX11_holdsLine_81 ?_
      refine lv_topi (fun x570 ex570 => ?_)
      have tx570 : x570.toInt = x568.toInt + 1 := ti_add ex570 k569 (rg_lit (n := 1) (by decide)) (by decide) rfl (by decide)
      have k571 : Rg x570 543 1341 := rg_add ex570 k569 (rg_lit (n := 1) (by decide)) (by decide)
      refine va_iald hx hb hK hP 1 0 rfl rfl (rg_in k571 (by decide)) dX11_holdsLine_82 ?_
      refine lv_topi (fun x572 ex572 => ?_)
      refine lv_iload_n hx hb dX11_holdsLine_83 rfl (lv_at hl 6 rfl) ?_
      refine lv_iload_n hx hb dX11_holdsLine_84 rfl (lv_at hl 7 rfl) ?_
      refine kpurei (wc := [(h, oX11 th aw ai ab ac hi re aP ta po en be de fa a5 sp av an ak ne aW aC ag aT aN aF), (aw, kcI cI 2179 fw)]) hP hD hS hA [0, 1] rfl (by decide) (fun hPc hDc hFc => va_runV (As := [.int x413, .int x572, .int mm, .int b]) (rest := [.int y387, .ref av]) ⟨hx, hb, hml, hown, hts⟩ (r_factOf l D cI cJ cB cC h th aw ai ab ac hi re aP ta po en be de fa a5 sp av an ak ne aW aC ag aT aN aF fw x413 x572 mm b H.size H_mm H_b k564 H_fw_W) (cwV 4 hts gX11_holdsLine_X11_factOf rfl rfl rfl ⟨rfl, hdX11_factOf⟩ ⟨Nat.le_of_ble_eq_true rfl, Nat.le_of_ble_eq_true rfl⟩) ⟨kBlind, va_recv hK hPc (ci := 10) (q0 := 0) rfl rfl, fun U hU hW => ⟨rfl, by rw [hU], hN.warm hW, hE.pass hS hFc hW hU, by rw [hU]; exact hPc, va_K.moved hW.alike hK, hDc⟩⟩ rfl rfl hl.1 rfl (lv_room (Nat.le_of_ble_eq_true rfl)) dX11_holdsLine_85 ⟨Nat.le_of_ble_eq_true rfl, Nat.le_of_ble_eq_true rfl⟩) (fun r573 u H locs hw hP hS => ?_)
      have k574 := hw
      refine va_iast hx hb hK hP hD hS 2 0 rfl rfl (rg_in k565 (by decide)) dX11_holdsLine_88 (fun H locs hP hD hS => ?_)
      have hP : va_P D vwCl [(h, oX11 th aw ai ab ac hi re aP ta po en be de fa a5 sp av an ak ne aW aC ag aT aN aF), (aw, kcI cI 2179 fw), (av, kcI cI 400 (upd g388 y387.toNatClampNeg r573))] H := hP
      have hD : va_D A [(h, oX11 th aw ai ab ac hi re aP ta po en be de fa a5 sp av an ak ne aW aC ag aT aN aF), (aw, kcI cI 2179 fw), (av, kcI cI 400 (upd g388 y387.toNatClampNeg r573))] := hD
      generalize hg575 : (upd g388 y387.toNatClampNeg r573) = g575 at hP hD
      obtain ⟨x576, ex576⟩ : ∃ y : Int32, y = y387 + 1 := ⟨_, rfl⟩
      refine lv_iinc (v := x576) (lv' := [(4, .int x576), (7, .int x413), (6, .int y386), (5, .int x3), (0, .ref h), (1, .int line), (2, .int mm), (3, .int b)]) hx hb dX11_holdsLine_89 hl (k := 3) rfl (by rw [ex576]; rfl) (by decide) rfl (fun ls hl => ?_)
      have k577 : Rg x576 1 400 := rg_add ex576 k565 (rg_lit (n := 1) (by decide)) (by decide)
      refine lv_goto (tgt := 265) hx hb dX11_holdsLine_92 (by decide) ?_
      obtain ⟨x578, ex578⟩ : ∃ y : Int32, y = y386 + 1 := ⟨_, rfl⟩
      refine lv_iinc (v := x578) (lv' := [(6, .int x578), (4, .int x576), (7, .int x413), (5, .int x3), (0, .ref h), (1, .int line), (2, .int mm), (3, .int b)]) hx hb dX11_holdsLine_265 hl (k := 2) rfl (by rw [ex578]; rfl) (by decide) rfl (fun ls hl => ?_)
      have k579 : Rg x578 1 400 := rg_add ex578 k407 (rg_lit (n := 1) (by decide)) (by decide)
      refine lv_goto (tgt := 23) hx hb dX11_holdsLine_268 (by decide) ?_
      exact ih389 (x578, x576, g575) _ _ _ (by show (400 - (x578).toInt).toNat < (400 - (y386).toInt).toNat; exact mu_up ex578 k407 k579 (by decide)) ⟨⟨i9 + 1, (by have q3 := ti_add (Y := 1) ex578 k407 (rg_lit (n := 1) (by decide)) (by decide) rfl (by decide); have q7 := hI9; omega), (by omega), (by have q1 : b9 - (i9 + 1) = n9 := (by omega); have q5 := ti_add (Y := 1) ex576 k565 (rg_lit (n := 1) (by decide)) (by decide) rfl (by decide); have q6 := k565; have q4 : cN x576 = cN y387 + 1 := (by simp only [cN]; unfold Rg at q6; omega); rw [q1, q4]; exact hq9), (by have q8 := k577; unfold Rg at q8; omega)⟩, (hF1.trans (kIter_go (kC_eq rfl (kC_eq rfl (kLet_eq (ti_add ex390 k4 (rg_lit (n := 2) (by decide)) (by decide) rfl rfl) (kLet_eq (ke_ld ex392) (kif_f (xF_le c394) (kLet_eq (ti_mul ex409 (rg_lit (n := 2) (by decide)) k407 (by decide) rfl rfl) (kLet_eq (ti_add ex411 (rg_lit (n := 542) (by decide)) k410 (by decide) rfl rfl) (kLet_eq (ke_ld ex413) (kif_f (xF_lt c480) (kLet_eq (ti_mul ex566 (rg_lit (n := 2) (by decide)) k407 (by decide) rfl rfl) (kLet_eq (ti_add ex568 (rg_lit (n := 542) (by decide)) k567 (by decide) rfl rfl) (kLet_eq (ti_add ex570 k569 (rg_lit (n := 1) (by decide)) (by decide) rfl rfl) (kLet_eq (ke_ld ex572) (kLet_eq (k574).symm (kLet_eq (ke_st hg575) (kLet_eq (ti_add ex576 k565 (rg_lit (n := 1) (by decide)) (by decide) rfl rfl) (kLet_eq (ti_add ex578 k407 (rg_lit (n := 1) (by decide)) (by decide) rfl rfl) rfl))))))))))))))))))), (rg_w k579 (by decide)), (rg_w k577 (by decide)), hP.sub (ws' := [(h, oX11 th aw ai ab ac hi re aP ta po en be de fa a5 sp av an ak ne aW aC ag aT aN aF), (aw, kcI cI 2179 fw), (av, kcI cI 400 g575)]) [0, 1, 2] rfl, hD.sub (ws' := [(h, oX11 th aw ai ab ac hi re aP ta po en be de fa a5 sp av an ak ne aW aC ag aT aN aF), (aw, kcI cI 2179 fw), (av, kcI cI 400 g575)]) [0, 1, 2] (by decide) rfl, hS, lv_sub (l' := [(6, .int x578), (5, .int x3), (4, .int x576), (0, .ref h), (1, .int line), (2, .int mm), (3, .int b)]) hl [0, 3, 1, 4, 5, 6, 7] rfl⟩

def kwX11_isBarred : List Cond := .code yX11_isBarred cX11_isBarred 5 (some .boolean) :: kG
theorem hdX11_isBarred : yX11_isBarred.cls ≠ "java/lang/invoke/MethodHandle" ∧ yX11_isBarred.cls ≠ "java/lang/invoke/VarHandle" ∧ (parseMethodDescriptor yX11_isBarred.desc).map (fun d => d.parameters.length) = some 2 := by decide +kernel
theorem gX11_isBarred_X11_holdsLine : GoodIn kG (wsV RX11 277 RX11 yX11_holdsLine kwX11_holdsLine) := gK w30_15 (gK w30_16 (gK w30_17 (gK w0_5 (gK w30_18 gGG))))
theorem gX11_isBarred_X11_isNextToLast : GoodIn kG (wsV RX11 270 RX11 yX11_isNextToLast kwX11_isNextToLast) := gK w30_11 (gK w30_12 (gK w30_13 (gK w0_5 (gK w30_14 gGG))))
theorem dX11_isBarred_0 : decode cX11_isBarred 0 = .ok (.aload_n 0, 1) := by decide +kernel
theorem dX11_isBarred_1 : decode cX11_isBarred 1 = .ok (.getfield 13, 3) := by decide +kernel
theorem dX11_isBarred_4 : decode cX11_isBarred 4 = .ok (.iconst 3, 1) := by decide +kernel
theorem dX11_isBarred_5 : decode cX11_isBarred 5 = .ok (.iaload, 1) := by decide +kernel
theorem dX11_isBarred_6 : decode cX11_isBarred 6 = .ok (.ifCond .ne 10, 3) := by decide +kernel
theorem dX11_isBarred_9 : decode cX11_isBarred 9 = .ok (.aload_n 0, 1) := by decide +kernel
theorem dX11_isBarred_10 : decode cX11_isBarred 10 = .ok (.iload_n 1, 1) := by decide +kernel
theorem dX11_isBarred_11 : decode cX11_isBarred 11 = .ok (.iload_n 2, 1) := by decide +kernel
theorem dX11_isBarred_12 : decode cX11_isBarred 12 = .ok (.invokevirtual 270, 3) := by decide +kernel
theorem dX11_isBarred_15 : decode cX11_isBarred 15 = .ok (.ireturn, 1) := by decide +kernel
theorem dX11_isBarred_16 : decode cX11_isBarred 16 = .ok (.iconst 0, 1) := by decide +kernel
theorem dX11_isBarred_17 : decode cX11_isBarred 17 = .ok (.istore_n 3, 1) := by decide +kernel
theorem dX11_isBarred_18 : decode cX11_isBarred 18 = .ok (.iconst 0, 1) := by decide +kernel
theorem dX11_isBarred_19 : decode cX11_isBarred 19 = .ok (.istore 4, 2) := by decide +kernel
theorem dX11_isBarred_21 : decode cX11_isBarred 21 = .ok (.iload 4, 2) := by decide +kernel
theorem dX11_isBarred_23 : decode cX11_isBarred 23 = .ok (.aload_n 0, 1) := by decide +kernel
theorem dX11_isBarred_24 : decode cX11_isBarred 24 = .ok (.getfield 13, 3) := by decide +kernel
theorem dX11_isBarred_27 : decode cX11_isBarred 27 = .ok (.sipush 505, 3) := by decide +kernel
theorem dX11_isBarred_30 : decode cX11_isBarred 30 = .ok (.iaload, 1) := by decide +kernel
theorem dX11_isBarred_31 : decode cX11_isBarred 31 = .ok (.if_icmp .ge 46, 3) := by decide +kernel
theorem dX11_isBarred_34 : decode cX11_isBarred 34 = .ok (.iload_n 3, 1) := by decide +kernel
theorem dX11_isBarred_35 : decode cX11_isBarred 35 = .ok (.ifCond .ne 42, 3) := by decide +kernel
theorem dX11_isBarred_38 : decode cX11_isBarred 38 = .ok (.aload_n 0, 1) := by decide +kernel
theorem dX11_isBarred_39 : decode cX11_isBarred 39 = .ok (.getfield 13, 3) := by decide +kernel
theorem dX11_isBarred_42 : decode cX11_isBarred 42 = .ok (.sipush 506, 3) := by decide +kernel
theorem dX11_isBarred_45 : decode cX11_isBarred 45 = .ok (.iconst 3, 1) := by decide +kernel
theorem dX11_isBarred_46 : decode cX11_isBarred 46 = .ok (.iload 4, 2) := by decide +kernel
theorem dX11_isBarred_48 : decode cX11_isBarred 48 = .ok (.imul, 1) := by decide +kernel
theorem dX11_isBarred_49 : decode cX11_isBarred 49 = .ok (.iadd, 1) := by decide +kernel
theorem dX11_isBarred_50 : decode cX11_isBarred 50 = .ok (.iaload, 1) := by decide +kernel
theorem dX11_isBarred_51 : decode cX11_isBarred 51 = .ok (.ifCond .ge 18, 3) := by decide +kernel
theorem dX11_isBarred_54 : decode cX11_isBarred 54 = .ok (.aload_n 0, 1) := by decide +kernel
theorem dX11_isBarred_55 : decode cX11_isBarred 55 = .ok (.iload 4, 2) := by decide +kernel
theorem dX11_isBarred_57 : decode cX11_isBarred 57 = .ok (.iload_n 1, 1) := by decide +kernel
theorem dX11_isBarred_58 : decode cX11_isBarred 58 = .ok (.iload_n 2, 1) := by decide +kernel
theorem dX11_isBarred_59 : decode cX11_isBarred 59 = .ok (.invokevirtual 277, 3) := by decide +kernel
theorem dX11_isBarred_62 : decode cX11_isBarred 62 = .ok (.ifCond .eq 7, 3) := by decide +kernel
theorem dX11_isBarred_65 : decode cX11_isBarred 65 = .ok (.iconst 1, 1) := by decide +kernel
theorem dX11_isBarred_66 : decode cX11_isBarred 66 = .ok (.goto 4, 3) := by decide +kernel
theorem dX11_isBarred_69 : decode cX11_isBarred 69 = .ok (.iconst 0, 1) := by decide +kernel
theorem dX11_isBarred_70 : decode cX11_isBarred 70 = .ok (.istore_n 3, 1) := by decide +kernel
theorem dX11_isBarred_71 : decode cX11_isBarred 71 = .ok (.iinc 4 1, 3) := by decide +kernel
theorem dX11_isBarred_74 : decode cX11_isBarred 74 = .ok (.goto (-53), 3) := by decide +kernel
theorem dX11_isBarred_77 : decode cX11_isBarred 77 = .ok (.iload_n 3, 1) := by decide +kernel
theorem dX11_isBarred_78 : decode cX11_isBarred 78 = .ok (.ireturn, 1) := by decide +kernel
set_option maxHeartbeats 4000000 in
set_option maxRecDepth 100000 in
/-- reference: isBarred -/
theorem r_isBarred (l : Launch) (D : va_G) (cI cJ cB cC : ClassId) (h : Nat) (th : Int32) (aw : Nat) (ai : Nat) (ab : Nat) (ac : Nat) (hi : Int32) (re : Int32) (aP : Nat) (ta : Int32) (po : Int32) (en : Int32) (be : Int32) (de : Int32) (fa : Int32) (a5 : Nat) (sp : Int32) (av : Nat) (an : Nat) (ak : Nat) (ne : Int32) (aW : Nat) (aC : Nat) (ag : Nat) (aT : Nat) (aN : Nat) (aF : Nat) (fw : Nat → Int32) (fv : Nat → Int32) (mm : Int32) (b : Int32) (sz : Nat) (H_mm : Rg mm 0 9) (H_b : Rg b 0 11) (H_fw_W : wW fw) (H_fw_L : wL fw) : Met l yX11_isBarred kwX11_isBarred ({ frames := 5, cells := 0, slots := 0, locals := 120 } : Room) (kPre D (kT cI cJ cB cC) sz [(h, oX11 th aw ai ab ac hi re aP ta po en be de fa a5 sp av an ak ne aW aC ag aT aN aF), (aw, kcI cI 2179 fw), (av, kcI cI 400 fv)] [.ref h, .int mm, .int b]) (va_Qi (fun (r : Int32) (f0_ : (Nat → Int32)) => Rg r 0 1 ∧ F_r_isBarred (gT fw) (gT fv) (mm : Int32).toInt (b : Int32).toInt = ((r : Int32).toInt, (gT f0_))) (fun (f0_ : (Nat → Int32)) (t : State) => kB D (kT cI cJ cB cC) (va_A [(h, oX11 th aw ai ab ac hi re aP ta po en be de fa a5 sp av an ak ne aW aC ag aT aN aF), (aw, kcI cI 2179 fw), (av, kcI cI 400 fv)] sz) [(h, oX11 th aw ai ab ac hi re aP ta po en be de fa a5 sp av an ak ne aW aC ag aT aN aF), (aw, kcI cI 2179 fw), (av, kcI cI 400 f0_)] t) (va_A [(h, oX11 th aw ai ab ac hi re aP ta po en be de fa a5 sp av an ak ne aW aC ag aT aN aF), (aw, kcI cI 2179 fw), (av, kcI cI 400 fv)] sz)) 0 0 (va_A [(h, oX11 th aw ai ab ac hi re aP ta po en be de fa a5 sp av an ak ne aW aC ag aT aN aF), (aw, kcI cI 2179 fw), (av, kcI cI 400 fv)] sz) := by
  refine Met.ofW (cc := cX11_isBarred) (maxL := 5) (ret := (some .boolean)) (by decide) rfl ?_
  intro p e s m args below meth c s₁ B hml hv
  obtain ⟨rfl, hsz, hN, hE, hP, hK, hD0⟩ := hv
  have hx := B.exec
  have hb := B.bytes
  have hr := B.returns
  have hts := fun (w : Cond) (h : w ∈ kG) => atoms_spec (ws := kwX11_isBarred) B.pre w (List.mem_cons_of_mem _ h)
  have hown : s.vm.findClass RX11 = some m.cls := findClass_of_methodNamed B.named
  subst hsz
  have hD := hD0.self (sz := s.heap.size)
  generalize hAe : va_A [(h, oX11 th aw ai ab ac hi re aP ta po en be de fa a5 sp av an ak ne aW aC ag aT aN aF), (aw, kcI cI 2179 fw), (av, kcI cI 400 fv)] s.heap.size = A at hD hE ⊢
  have hA : ∀ q : Nat, s.heap.size ≤ q → A q := fun q h => by rw [← hAe]; exact Or.inr h
  have hl := lv_entry ([.ref h, .int mm, .int b]) (n := 5) (Nat.le_of_ble_eq_true rfl)
  rw [lg_entry_eq]
  generalize (lg_sl ([.ref h, .int mm, .int b]) ++ List.replicate (5 - (lg_sl ([.ref h, .int mm, .int b])).length) Slot.unset).toArray = ls at hl ⊢
  have hl : lv_has ls 5 [(0, .ref h), (1, .int mm), (2, .int b)] := hl
  obtain ⟨H, hH0⟩ : ∃ H, H = s.heap := ⟨_, rfl⟩
  have hS : va_S A s.heap H [] := by rw [hH0]; exact va_S.rf
  have hP : va_P D vwCl [(h, oX11 th aw ai ab ac hi re aP ta po en be de fa a5 sp av an ak ne aW aC ag aT aN aF), (aw, kcI cI 2179 fw), (av, kcI cI 400 fv)] H := by rw [hH0]; exact hP
  refine kHeap hH0 ?_
  clear hH0
  refine lv_aload_n hx hb dX11_isBarred_0 rfl (lv_at hl 0 rfl) ?_
  refine va_get (D := D) (ci := 10) (v := .ref aw) (C := RX11) (T := TX11) (N := 26) hx hb hts iG_X11 hown hK hP 0 rfl rfl 1 (by decide) (hts _ w5_3) (fun _ h9 => h9) rfl dX11_isBarred_1 ?_
  refine lv_iconst (v := 3) hx hb dX11_isBarred_4 (by decide) ?_
  refine va_iald hx hb hK hP 1 0 rfl rfl (rg_in (rg_lit (n := 3) (by decide)) (by decide)) dX11_isBarred_5 ?_
  refine lv_topi (fun x1 ex1 => ?_)
  refine lv_if_ne (tgt := 16) hx hb dX11_isBarred_6 (by decide) (fun c2 => ?_) (fun c2 => ?_)
  · skip
    refine lv_iconst (v := 0) hx hb dX11_isBarred_16 (by decide) ?_
    refine lv_istore_n (lv' := [(3, .int 0), (0, .ref h), (1, .int mm), (2, .int b)]) hx hb dX11_isBarred_17 rfl hl (by decide) rfl (fun ls hl => ?_)
    refine lv_iconst (v := 0) hx hb dX11_isBarred_18 (by decide) ?_
    refine lv_istore (lv' := [(4, .int 0), (3, .int 0), (0, .ref h), (1, .int mm), (2, .int b)]) hx hb dX11_isBarred_19 hl (by decide) rfl (fun ls hl => ?_)
    refine k_loop (hd := 21) (fun (u : Int32 × Int32 × (Nat → Int32)) => match u with | (y486, y487, g488) => (12 - (y486).toInt).toNat) (fun (u : Int32 × Int32 × (Nat → Int32)) (H : Heap) (locs : List Loc) (ls : Array Slot) => match u with | (y486, y487, g488) => (F_r_isBarred (gT fw) (gT fv) mm.toInt b.toInt = F_r_isBarred_l1 (gT fw) mm.toInt b.toInt (y486.toInt, y487.toInt, (gT g488))) ∧ Rg y486 0 12 ∧ Rg y487 0 1 ∧ va_P D vwCl [(h, oX11 th aw ai ab ac hi re aP ta po en be de fa a5 sp av an ak ne aW aC ag aT aN aF), (aw, kcI cI 2179 fw), (av, kcI cI 400 g488)] H ∧ va_D A [(h, oX11 th aw ai ab ac hi re aP ta po en be de fa a5 sp av an ak ne aW aC ag aT aN aF), (aw, kcI cI 2179 fw), (av, kcI cI 400 g488)] ∧ va_S A s.heap H locs ∧ lv_has ls 5 [(4, .int y486), (3, .int y487), (0, .ref h), (1, .int mm), (2, .int b)]) ((0 : Int32), (0 : Int32), fv) ⟨(kLet_eq (ke_ld ex1) (kif_f (neI c2) rfl)), (rg_w (rg_lit (n := 0) (by decide)) (by decide)), (rg_w (rg_lit (n := 0) (by decide)) (by decide)), hP.sub (ws' := [(h, oX11 th aw ai ab ac hi re aP ta po en be de fa a5 sp av an ak ne aW aC ag aT aN aF), (aw, kcI cI 2179 fw), (av, kcI cI 400 fv)]) [0, 1, 2] rfl, hD.sub (ws' := [(h, oX11 th aw ai ab ac hi re aP ta po en be de fa a5 sp av an ak ne aW aC ag aT aN aF), (aw, kcI cI 2179 fw), (av, kcI cI 400 fv)]) [0, 1, 2] (by decide) rfl, hS, lv_sub (l' := [(4, .int 0), (3, .int 0), (0, .ref h), (1, .int mm), (2, .int b)]) hl [0, 1, 2, 3, 4] rfl⟩ (fun u H locs ls hI ih489 => ?_)
    clear hP hD hS hl
    obtain ⟨y486, y487, g488⟩ := u
    obtain ⟨hF1, hy486, hy487, hP, hD, hS, hl⟩ := hI
    have hP : va_P D vwCl [(h, oX11 th aw ai ab ac hi re aP ta po en be de fa a5 sp av an ak ne aW aC ag aT aN aF), (aw, kcI cI 2179 fw), (av, kcI cI 400 g488)] H := hP
    have hD : va_D A [(h, oX11 th aw ai ab ac hi re aP ta po en be de fa a5 sp av an ak ne aW aC ag aT aN aF), (aw, kcI cI 2179 fw), (av, kcI cI 400 g488)] := hD
    have hl : lv_has ls 5 [(4, .int y486), (3, .int y487), (0, .ref h), (1, .int mm), (2, .int b)] := hl
    refine lv_iload hx hb dX11_isBarred_21 (lv_at hl 0 rfl) ?_
    refine lv_aload_n hx hb dX11_isBarred_23 rfl (lv_at hl 2 rfl) ?_
    refine va_get (D := D) (ci := 10) (v := .ref aw) (C := RX11) (T := TX11) (N := 26) hx hb hts iG_X11 hown hK hP 0 rfl rfl 1 (by decide) (hts _ w5_3) (fun _ h9 => h9) rfl dX11_isBarred_24 ?_
    refine lv_sipush (v := 505) hx hb dX11_isBarred_27 (by decide) ?_
    refine va_iald hx hb hK hP 1 0 rfl rfl (rg_in (rg_lit (n := 505) (by decide)) (by decide)) dX11_isBarred_30 ?_
    refine lv_topi (fun x490 ex490 => ?_)
    have k491 : Rg x490 0 12 := wL_505 H_fw_L ex490
    refine k_join (hd := 77) (cells2 := 0) (slots2 := 0) (fun (_ : Unit) => []) (fun (_ : Unit) (H : Heap) (locs : List Loc) (ls : Array Slot) => (F_r_isBarred_l1_s (gT fw) mm.toInt b.toInt (y486.toInt, y487.toInt, (gT g488)) = F_r_isBarred_j2 y487.toInt (gT g488)) ∧ va_P D vwCl [(h, oX11 th aw ai ab ac hi re aP ta po en be de fa a5 sp av an ak ne aW aC ag aT aN aF), (aw, kcI cI 2179 fw), (av, kcI cI 400 g488)] H ∧ va_D A [(h, oX11 th aw ai ab ac hi re aP ta po en be de fa a5 sp av an ak ne aW aC ag aT aN aF), (aw, kcI cI 2179 fw), (av, kcI cI 400 g488)] ∧ va_S A s.heap H locs ∧ lv_has ls 5 [(4, .int y486), (3, .int y487), (0, .ref h), (1, .int mm), (2, .int b)]) (fun u H locs ls hI => ?_) (fun hJ77 => ?_)
    · skip
      clear hP hD hS hl
      obtain ⟨hF2, hP, hD, hS, hl⟩ := hI
      have hP : va_P D vwCl [(h, oX11 th aw ai ab ac hi re aP ta po en be de fa a5 sp av an ak ne aW aC ag aT aN aF), (aw, kcI cI 2179 fw), (av, kcI cI 400 g488)] H := hP
      have hD : va_D A [(h, oX11 th aw ai ab ac hi re aP ta po en be de fa a5 sp av an ak ne aW aC ag aT aN aF), (aw, kcI cI 2179 fw), (av, kcI cI 400 g488)] := hD
      have hl : lv_has ls 5 [(4, .int y486), (3, .int y487), (0, .ref h), (1, .int mm), (2, .int b)] := hl
      refine lv_iload_n hx hb dX11_isBarred_77 rfl (lv_at hl 1 rfl) ?_
      have hP9 := hP.sub (ws' := [(h, oX11 th aw ai ab ac hi re aP ta po en be de fa a5 sp av an ak ne aW aC ag aT aN aF), (aw, kcI cI 2179 fw), (av, kcI cI 400 g488)]) [0, 1, 2] rfl
      have hD9 := hD.sub (ws' := [(h, oX11 th aw ai ab ac hi re aP ta po en be de fa a5 sp av an ak ne aW aC ag aT aN aF), (aw, kcI cI 2179 fw), (av, kcI cI 400 g488)]) [0, 1, 2] (by decide) rfl
      exact W.zret (v := y487) hx hb hr (rg_bool hy487) (fun t ht hW => ⟨⟨y487, (g488), rfl, ⟨hy487, (hF1.trans (kIter_out (hF2.trans rfl)))⟩, by rw [ht]; exact hP9, va_K.moved hW.alike hK, hD9⟩, hS.F ht⟩) hS.2.2 dX11_isBarred_78
    refine lv_icmp_ge (tgt := 77) hx hb dX11_isBarred_31 (by decide) (fun c518 => ?_) (fun c518 => ?_)
    · skip
      exact hJ77 () _ _ _ ⟨(kC_eq rfl (kC_eq rfl (kLet_eq (ke_ld ex490) (kif_t (leI c518) rfl)))), hP.sub (ws' := [(h, oX11 th aw ai ab ac hi re aP ta po en be de fa a5 sp av an ak ne aW aC ag aT aN aF), (aw, kcI cI 2179 fw), (av, kcI cI 400 g488)]) [0, 1, 2] rfl, hD.sub (ws' := [(h, oX11 th aw ai ab ac hi re aP ta po en be de fa a5 sp av an ak ne aW aC ag aT aN aF), (aw, kcI cI 2179 fw), (av, kcI cI 400 g488)]) [0, 1, 2] (by decide) rfl, hS, lv_sub (l' := [(4, .int y486), (3, .int y487), (0, .ref h), (1, .int mm), (2, .int b)]) hl [0, 1, 2, 3, 4] rfl⟩
    · skip
      have k519 : Rg y486 0 11 := rg_l1 (nleI c518) hy486 k491 (by decide)
      have k520 : Rg x490 1 12 := rg_l2 (nleI c518) hy486 k491 (by decide)
      refine lv_iload_n hx hb dX11_isBarred_34 rfl (lv_at hl 1 rfl) ?_
      refine lv_if_ne (tgt := 77) hx hb dX11_isBarred_35 (by decide) (fun c521 => ?_) (fun c521 => ?_)
      · skip
        have k522 : Rg y487 1 1 := rg_n1 (neI c521) hy487 (rg_lit (n := 0) (by decide)) (by decide)
        exact hJ77 () _ _ _ ⟨(kC_eq rfl (kC_eq rfl (kLet_eq (ke_ld ex490) (kif_f (xF_le c518) (kif_f (neI c521) rfl))))), hP.sub (ws' := [(h, oX11 th aw ai ab ac hi re aP ta po en be de fa a5 sp av an ak ne aW aC ag aT aN aF), (aw, kcI cI 2179 fw), (av, kcI cI 400 g488)]) [0, 1, 2] rfl, hD.sub (ws' := [(h, oX11 th aw ai ab ac hi re aP ta po en be de fa a5 sp av an ak ne aW aC ag aT aN aF), (aw, kcI cI 2179 fw), (av, kcI cI 400 g488)]) [0, 1, 2] (by decide) rfl, hS, lv_sub (l' := [(4, .int y486), (3, .int y487), (0, .ref h), (1, .int mm), (2, .int b)]) hl [0, 1, 2, 3, 4] rfl⟩
      · skip
        have k523 : Rg y487 0 0 := rg_q1 (eqI c521) hy487 (rg_lit (n := 0) (by decide)) (by decide)
        refine lv_aload_n hx hb dX11_isBarred_38 rfl (lv_at hl 2 rfl) ?_
        refine va_get (D := D) (ci := 10) (v := .ref aw) (C := RX11) (T := TX11) (N := 26) hx hb hts iG_X11 hown hK hP 0 rfl rfl 1 (by decide) (hts _ w5_3) (fun _ h9 => h9) rfl dX11_isBarred_39 ?_
        refine lv_sipush (v := 506) hx hb dX11_isBarred_42 (by decide) ?_
        refine lv_iconst (v := 3) hx hb dX11_isBarred_45 (by decide) ?_
        refine lv_iload hx hb dX11_isBarred_46 (lv_at hl 0 rfl) ?_
        refine lv_imul hx hb dX11_isBarred_48 ?_
        refine lv_topi (fun x524 ex524 => ?_)
        have tx524 : x524.toInt = 3 * y486.toInt := ti_mul ex524 (rg_lit (n := 3) (by decide)) k519 (by decide) (by decide) rfl
        have k525 : Rg x524 0 33 := rg_mul ex524 (rg_lit (n := 3) (by decide)) k519 (by decide)
        refine lv_iadd hx hb dX11_isBarred_49 ?_
        refine lv_topi (fun x526 ex526 => ?_)
        have tx526 : x526.toInt = 506 + x524.toInt := ti_add ex526 (rg_lit (n := 506) (by decide)) k525 (by decide) (by decide) rfl
        have k527 : Rg x526 506 539 := rg_add ex526 (rg_lit (n := 506) (by decide)) k525 (by decide)
        refine va_iald hx hb hK hP 1 0 rfl rfl (rg_in k527 (by decide)) dX11_isBarred_50 ?_
        refine lv_topi (fun x528 ex528 => ?_)
        refine k_join (hd := 69) (cells2 := 0) (slots2 := 0) (fun (g540 : (Nat → Int32)) => []) (fun (g540 : (Nat → Int32)) (H : Heap) (locs : List Loc) (ls : Array Slot) => (F_r_isBarred_l1_s (gT fw) mm.toInt b.toInt (y486.toInt, y487.toInt, (gT g488)) = F_r_isBarred_j3 y486.toInt (gT g540)) ∧ va_P D vwCl [(h, oX11 th aw ai ab ac hi re aP ta po en be de fa a5 sp av an ak ne aW aC ag aT aN aF), (aw, kcI cI 2179 fw), (av, kcI cI 400 g540)] H ∧ va_D A [(h, oX11 th aw ai ab ac hi re aP ta po en be de fa a5 sp av an ak ne aW aC ag aT aN aF), (aw, kcI cI 2179 fw), (av, kcI cI 400 g540)] ∧ va_S A s.heap H locs ∧ lv_has ls 5 [(4, .int y486), (3, .int y487), (0, .ref h), (1, .int mm), (2, .int b)]) (fun u H locs ls hI => ?_) (fun hJ69 => ?_)
        · skip
          clear hP hD hS hl
          obtain ⟨g540, rfl⟩ : ∃ z, z = u := ⟨_, rfl⟩
          obtain ⟨hF3, hP, hD, hS, hl⟩ := hI
          have hP : va_P D vwCl [(h, oX11 th aw ai ab ac hi re aP ta po en be de fa a5 sp av an ak ne aW aC ag aT aN aF), (aw, kcI cI 2179 fw), (av, kcI cI 400 g540)] H := hP
          have hD : va_D A [(h, oX11 th aw ai ab ac hi re aP ta po en be de fa a5 sp av an ak ne aW aC ag aT aN aF), (aw, kcI cI 2179 fw), (av, kcI cI 400 g540)] := hD
          have hl : lv_has ls 5 [(4, .int y486), (3, .int y487), (0, .ref h), (1, .int mm), (2, .int b)] := hl
          refine lv_iconst (v := 0) hx hb dX11_isBarred_69 (by decide) ?_
          refine lv_istore_n (lv' := [(3, .int 0), (4, .int y486), (0, .ref h), (1, .int mm), (2, .int b)]) hx hb dX11_isBarred_70 rfl hl (by decide) rfl (fun ls hl => ?_)
          obtain ⟨x541, ex541⟩ : ∃ y : Int32, y = y486 + 1 := ⟨_, rfl⟩
          refine lv_iinc (v := x541) (lv' := [(4, .int x541), (3, .int 0), (0, .ref h), (1, .int mm), (2, .int b)]) hx hb dX11_isBarred_71 hl (k := 1) rfl (by rw [ex541]; rfl) (by decide) rfl (fun ls hl => ?_)
          have k542 : Rg x541 1 12 := rg_add ex541 k519 (rg_lit (n := 1) (by decide)) (by decide)
          refine lv_goto (tgt := 21) hx hb dX11_isBarred_74 (by decide) ?_
          exact ih489 (x541, (0 : Int32), g540) _ _ _ (by show (12 - (x541).toInt).toNat < (12 - (y486).toInt).toNat; exact mu_up ex541 k519 k542 (by decide)) ⟨(hF1.trans (kIter_go (hF3.trans (kLet_eq (ti_add ex541 k519 (rg_lit (n := 1) (by decide)) (by decide) rfl rfl) rfl)))), (rg_w k542 (by decide)), (rg_w (rg_lit (n := 0) (by decide)) (by decide)), hP.sub (ws' := [(h, oX11 th aw ai ab ac hi re aP ta po en be de fa a5 sp av an ak ne aW aC ag aT aN aF), (aw, kcI cI 2179 fw), (av, kcI cI 400 g540)]) [0, 1, 2] rfl, hD.sub (ws' := [(h, oX11 th aw ai ab ac hi re aP ta po en be de fa a5 sp av an ak ne aW aC ag aT aN aF), (aw, kcI cI 2179 fw), (av, kcI cI 400 g540)]) [0, 1, 2] (by decide) rfl, hS, lv_sub (l' := [(4, .int x541), (3, .int 0), (0, .ref h), (1, .int mm), (2, .int b)]) hl [0, 1, 2, 3, 4] rfl⟩
        refine lv_if_ge (tgt := 69) hx hb dX11_isBarred_51 (by decide) (fun c543 => ?_) (fun c543 => ?_)
        · skip
          have k544 : Rg x528 0 2147483647 := rg_e2 (leI c543) (rg_lit (n := 0) (by decide)) (rg_any x528) (by decide)
          exact hJ69 (g488) _ _ _ ⟨(kC_eq rfl (kC_eq rfl (kLet_eq (ke_ld ex490) (kif_f (xF_le c518) (kif_t (eqI c521) (kLet_eq (ti_mul ex524 (rg_lit (n := 3) (by decide)) k519 (by decide) rfl rfl) (kLet_eq (ti_add ex526 (rg_lit (n := 506) (by decide)) k525 (by decide) rfl rfl) (kLet_eq (ke_ld ex528) (kif_t (leI c543) rfl))))))))), hP.sub (ws' := [(h, oX11 th aw ai ab ac hi re aP ta po en be de fa a5 sp av an ak ne aW aC ag aT aN aF), (aw, kcI cI 2179 fw), (av, kcI cI 400 g488)]) [0, 1, 2] rfl, hD.sub (ws' := [(h, oX11 th aw ai ab ac hi re aP ta po en be de fa a5 sp av an ak ne aW aC ag aT aN aF), (aw, kcI cI 2179 fw), (av, kcI cI 400 g488)]) [0, 1, 2] (by decide) rfl, hS, lv_sub (l' := [(4, .int y486), (3, .int y487), (0, .ref h), (1, .int mm), (2, .int b)]) hl [0, 1, 2, 3, 4] rfl⟩
        · skip
          have k545 : Rg x528 (-2147483648) (-1) := rg_l1 (nleI c543) (rg_any x528) (rg_lit (n := 0) (by decide)) (by decide)
          refine lv_aload_n hx hb dX11_isBarred_54 rfl (lv_at hl 2 rfl) ?_
          refine lv_iload hx hb dX11_isBarred_55 (lv_at hl 0 rfl) ?_
          refine lv_iload_n hx hb dX11_isBarred_57 rfl (lv_at hl 3 rfl) ?_
          refine lv_iload_n hx hb dX11_isBarred_58 rfl (lv_at hl 4 rfl) ?_
          refine kcalli (wc := [(h, oX11 th aw ai ab ac hi re aP ta po en be de fa a5 sp av an ak ne aW aC ag aT aN aF), (aw, kcI cI 2179 fw), (av, kcI cI 400 g488)]) (wr := []) hP hD hS hA [0, 1, 2] [] rfl rfl (by decide) (by decide) (by decide) (fun hPc hDc hFc => va_runV (As := [.int y486, .int mm, .int b]) (rest := []) ⟨hx, hb, hml, hown, hts⟩ (r_holdsLine l D cI cJ cB cC h th aw ai ab ac hi re aP ta po en be de fa a5 sp av an ak ne aW aC ag aT aN aF fw g488 y486 mm b H.size H_mm H_b k519 H_fw_W H_fw_L (lt_505 ex490 (nleI c518))) (cwV 3 hts gX11_isBarred_X11_holdsLine rfl rfl rfl ⟨rfl, hdX11_holdsLine⟩ ⟨Nat.le_of_ble_eq_true rfl, Nat.le_of_ble_eq_true rfl⟩) ⟨kBlind, va_recv hK hPc (ci := 10) (q0 := 0) rfl rfl, fun U hU hW => ⟨rfl, by rw [hU], hN.warm hW, hE.pass hS hFc hW hU, by rw [hU]; exact hPc, va_K.moved hW.alike hK, hDc⟩⟩ rfl rfl hl.1 rfl (lv_room (Nat.le_of_ble_eq_true rfl)) dX11_isBarred_59 ⟨Nat.le_of_ble_eq_true rfl, Nat.le_of_ble_eq_true rfl⟩) (fun r546 u H locs hw hP hD hS => ?_)
          obtain ⟨g547, rfl⟩ : ∃ z, z = u := ⟨_, rfl⟩
          have hP : va_P D vwCl [(h, oX11 th aw ai ab ac hi re aP ta po en be de fa a5 sp av an ak ne aW aC ag aT aN aF), (aw, kcI cI 2179 fw), (av, kcI cI 400 g547)] H := hP
          have hD : va_D A [(h, oX11 th aw ai ab ac hi re aP ta po en be de fa a5 sp av an ak ne aW aC ag aT aN aF), (aw, kcI cI 2179 fw), (av, kcI cI 400 g547)] := hD
          obtain ⟨k548, k549⟩ := hw
          refine lv_if_eq (tgt := 69) hx hb dX11_isBarred_62 (by decide) (fun c550 => ?_) (fun c550 => ?_)
          · skip
            have k551 : Rg r546 0 0 := rg_q1 (eqI c550) k548 (rg_lit (n := 0) (by decide)) (by decide)
            exact hJ69 (g547) _ _ _ ⟨(kC_eq rfl (kC_eq rfl (kLet_eq (ke_ld ex490) (kif_f (xF_le c518) (kif_t (eqI c521) (kLet_eq (ti_mul ex524 (rg_lit (n := 3) (by decide)) k519 (by decide) rfl rfl) (kLet_eq (ti_add ex526 (rg_lit (n := 506) (by decide)) k525 (by decide) rfl rfl) (kLet_eq (ke_ld ex528) (kif_f (xF_le c543) (kC_eq k549 (kif_t (eqI c550) rfl))))))))))), hP.sub (ws' := [(h, oX11 th aw ai ab ac hi re aP ta po en be de fa a5 sp av an ak ne aW aC ag aT aN aF), (aw, kcI cI 2179 fw), (av, kcI cI 400 g547)]) [0, 1, 2] rfl, hD.sub (ws' := [(h, oX11 th aw ai ab ac hi re aP ta po en be de fa a5 sp av an ak ne aW aC ag aT aN aF), (aw, kcI cI 2179 fw), (av, kcI cI 400 g547)]) [0, 1, 2] (by decide) rfl, hS, lv_sub (l' := [(4, .int y486), (3, .int y487), (0, .ref h), (1, .int mm), (2, .int b)]) hl [0, 1, 2, 3, 4] rfl⟩
          · skip
            have k552 : Rg r546 1 1 := rg_n1 (neI c550) k548 (rg_lit (n := 0) (by decide)) (by decide)
            refine lv_iconst (v := 1) hx hb dX11_isBarred_65 (by decide) ?_
            refine lv_goto (tgt := 70) hx hb dX11_isBarred_66 (by decide) ?_
            refine lv_istore_n (lv' := [(3, .int 1), (4, .int y486), (0, .ref h), (1, .int mm), (2, .int b)]) hx hb dX11_isBarred_70 rfl hl (by decide) rfl (fun ls hl => ?_)
            obtain ⟨x553, ex553⟩ : ∃ y : Int32, y = y486 + 1 := ⟨_, rfl⟩
            refine lv_iinc (v := x553) (lv' := [(4, .int x553), (3, .int 1), (0, .ref h), (1, .int mm), (2, .int b)]) hx hb dX11_isBarred_71 hl (k := 1) rfl (by rw [ex553]; rfl) (by decide) rfl (fun ls hl => ?_)
            have k554 : Rg x553 1 12 := rg_add ex553 k519 (rg_lit (n := 1) (by decide)) (by decide)
            refine lv_goto (tgt := 21) hx hb dX11_isBarred_74 (by decide) ?_
            exact ih489 (x553, (1 : Int32), g547) _ _ _ (by show (12 - (x553).toInt).toNat < (12 - (y486).toInt).toNat; exact mu_up ex553 k519 k554 (by decide)) ⟨(hF1.trans (kIter_go (kC_eq rfl (kC_eq rfl (kLet_eq (ke_ld ex490) (kif_f (xF_le c518) (kif_t (eqI c521) (kLet_eq (ti_mul ex524 (rg_lit (n := 3) (by decide)) k519 (by decide) rfl rfl) (kLet_eq (ti_add ex526 (rg_lit (n := 506) (by decide)) k525 (by decide) rfl rfl) (kLet_eq (ke_ld ex528) (kif_f (xF_le c543) (kC_eq k549 (kif_f (neI c550) (kLet_eq (ti_add ex553 k519 (rg_lit (n := 1) (by decide)) (by decide) rfl rfl) rfl)))))))))))))), (rg_w k554 (by decide)), (rg_w (rg_lit (n := 1) (by decide)) (by decide)), hP.sub (ws' := [(h, oX11 th aw ai ab ac hi re aP ta po en be de fa a5 sp av an ak ne aW aC ag aT aN aF), (aw, kcI cI 2179 fw), (av, kcI cI 400 g547)]) [0, 1, 2] rfl, hD.sub (ws' := [(h, oX11 th aw ai ab ac hi re aP ta po en be de fa a5 sp av an ak ne aW aC ag aT aN aF), (aw, kcI cI 2179 fw), (av, kcI cI 400 g547)]) [0, 1, 2] (by decide) rfl, hS, lv_sub (l' := [(4, .int x553), (3, .int 1), (0, .ref h), (1, .int mm), (2, .int b)]) hl [0, 1, 2, 3, 4] rfl⟩
  · skip
    have k555 : Rg x1 0 0 := rg_q1 (eqI c2) (rg_any x1) (rg_lit (n := 0) (by decide)) (by decide)
    refine lv_aload_n hx hb dX11_isBarred_9 rfl (lv_at hl 0 rfl) ?_
    refine lv_iload_n hx hb dX11_isBarred_10 rfl (lv_at hl 1 rfl) ?_
    refine lv_iload_n hx hb dX11_isBarred_11 rfl (lv_at hl 2 rfl) ?_
    refine kpurei (wc := [(h, oX11 th aw ai ab ac hi re aP ta po en be de fa a5 sp av an ak ne aW aC ag aT aN aF), (aw, kcI cI 2179 fw)]) hP hD hS hA [0, 1] rfl (by decide) (fun hPc hDc hFc => va_runV (As := [.int mm, .int b]) (rest := []) ⟨hx, hb, hml, hown, hts⟩ (r_isNextToLast l D cI cJ cB cC h th aw ai ab ac hi re aP ta po en be de fa a5 sp av an ak ne aW aC ag aT aN aF fw mm b H.size H_mm H_b H_fw_W) (cwV 2 hts gX11_isBarred_X11_isNextToLast rfl rfl rfl ⟨rfl, hdX11_isNextToLast⟩ ⟨Nat.le_of_ble_eq_true rfl, Nat.le_of_ble_eq_true rfl⟩) ⟨kBlind, va_recv hK hPc (ci := 10) (q0 := 0) rfl rfl, fun U hU hW => ⟨rfl, by rw [hU], hN.warm hW, hE.pass hS hFc hW hU, by rw [hU]; exact hPc, va_K.moved hW.alike hK, hDc⟩⟩ rfl rfl hl.1 rfl (lv_room (Nat.le_of_ble_eq_true rfl)) dX11_isBarred_12 ⟨Nat.le_of_ble_eq_true rfl, Nat.le_of_ble_eq_true rfl⟩) (fun r556 u H locs hw hP hS => ?_)
    obtain ⟨k557, hw⟩ := hw
    rcases hw with rfl | rfl
    · skip
      have hP9 := hP.sub (ws' := [(h, oX11 th aw ai ab ac hi re aP ta po en be de fa a5 sp av an ak ne aW aC ag aT aN aF), (aw, kcI cI 2179 fw), (av, kcI cI 400 fv)]) [0, 1, 2] rfl
      have hD9 := hD.sub (ws' := [(h, oX11 th aw ai ab ac hi re aP ta po en be de fa a5 sp av an ak ne aW aC ag aT aN aF), (aw, kcI cI 2179 fw), (av, kcI cI 400 fv)]) [0, 1, 2] (by decide) rfl
      exact W.zret (v := 0) hx hb hr (by decide) (fun t ht hW => ⟨⟨0, (fv), rfl, ⟨(rg_w (rg_lit (n := 0) (by decide)) (by decide)), (kLet_eq (ke_ld ex1) (kif_t (eqI c2) (kLet_eq (k557).symm (kif_t rfl rfl))))⟩, by rw [ht]; exact hP9, va_K.moved hW.alike hK, hD9⟩, hS.F ht⟩) hS.2.2 dX11_isBarred_15
    · skip
      have hP9 := hP.sub (ws' := [(h, oX11 th aw ai ab ac hi re aP ta po en be de fa a5 sp av an ak ne aW aC ag aT aN aF), (aw, kcI cI 2179 fw), (av, kcI cI 400 fv)]) [0, 1, 2] rfl
      have hD9 := hD.sub (ws' := [(h, oX11 th aw ai ab ac hi re aP ta po en be de fa a5 sp av an ak ne aW aC ag aT aN aF), (aw, kcI cI 2179 fw), (av, kcI cI 400 fv)]) [0, 1, 2] (by decide) rfl
      exact W.zret (v := 1) hx hb hr (by decide) (fun t ht hW => ⟨⟨1, (fv), rfl, ⟨(rg_w (rg_lit (n := 1) (by decide)) (by decide)), (kLet_eq (ke_ld ex1) (kif_t (eqI c2) (kLet_eq (k557).symm (kif_f (by decide) rfl))))⟩, by rw [ht]; exact hP9, va_K.moved hW.alike hK, hD9⟩, hS.F ht⟩) hS.2.2 dX11_isBarred_15

