def kwX11_factOf : List Cond := .code yX11_factOf cX11_factOf 5 (some .int) :: kG
theorem hdX11_factOf : yX11_factOf.cls ≠ "java/lang/invoke/MethodHandle" ∧ yX11_factOf.cls ≠ "java/lang/invoke/VarHandle" ∧ (parseMethodDescriptor yX11_factOf.desc).map (fun d => d.parameters.length) = some 4 := by decide +kernel
theorem gX11_factOf_X11_isNextToLast : GoodIn kG (wsV RX11 270 RX11 yX11_isNextToLast kwX11_isNextToLast) := gK w30_11 (gK w30_12 (gK w30_13 (gK w0_5 (gK w30_14 gGG))))
theorem gX11_factOf_X11_of : GoodIn kG (wsV RX11 156 RX11 yX11_of kwX11_of) := gK w21_9 (gK w21_10 (gK w21_11 (gK w0_5 (gK w21_12 gGG))))
theorem gX11_factOf_X11_ofMan : GoodIn kG (wsV RX11 153 RX11 yX11_ofMan kwX11_ofMan) := gK w21_5 (gK w21_6 (gK w21_7 (gK w0_5 (gK w21_8 gGG))))
theorem dX11_factOf_0 : decode cX11_factOf 0 = .ok (.iload_n 1, 1) := by decide +kernel
theorem dX11_factOf_1 : decode cX11_factOf 1 = .ok (.iconst 4, 1) := by decide +kernel
theorem dX11_factOf_2 : decode cX11_factOf 2 = .ok (.if_icmp .gt 11, 3) := by decide +kernel
theorem dX11_factOf_5 : decode cX11_factOf 5 = .ok (.aload_n 0, 1) := by decide +kernel
theorem dX11_factOf_6 : decode cX11_factOf 6 = .ok (.iload 4, 2) := by decide +kernel
theorem dX11_factOf_8 : decode cX11_factOf 8 = .ok (.iload_n 1, 1) := by decide +kernel
theorem dX11_factOf_9 : decode cX11_factOf 9 = .ok (.invokevirtual 156, 3) := by decide +kernel
theorem dX11_factOf_12 : decode cX11_factOf 12 = .ok (.ireturn, 1) := by decide +kernel
theorem dX11_factOf_13 : decode cX11_factOf 13 = .ok (.iload_n 1, 1) := by decide +kernel
theorem dX11_factOf_14 : decode cX11_factOf 14 = .ok (.tableswitch 126 5 11 #[42, 49, 56, 63, 70, 88, 104], 42) := by decide +kernel
theorem dX11_factOf_56 : decode cX11_factOf 56 = .ok (.aload_n 0, 1) := by decide +kernel
theorem dX11_factOf_57 : decode cX11_factOf 57 = .ok (.iload_n 3, 1) := by decide +kernel
theorem dX11_factOf_58 : decode cX11_factOf 58 = .ok (.iconst 1, 1) := by decide +kernel
theorem dX11_factOf_59 : decode cX11_factOf 59 = .ok (.invokevirtual 153, 3) := by decide +kernel
theorem dX11_factOf_62 : decode cX11_factOf 62 = .ok (.ireturn, 1) := by decide +kernel
theorem dX11_factOf_63 : decode cX11_factOf 63 = .ok (.aload_n 0, 1) := by decide +kernel
theorem dX11_factOf_64 : decode cX11_factOf 64 = .ok (.iload_n 3, 1) := by decide +kernel
theorem dX11_factOf_65 : decode cX11_factOf 65 = .ok (.iconst 0, 1) := by decide +kernel
theorem dX11_factOf_66 : decode cX11_factOf 66 = .ok (.invokevirtual 153, 3) := by decide +kernel
theorem dX11_factOf_69 : decode cX11_factOf 69 = .ok (.ireturn, 1) := by decide +kernel
theorem dX11_factOf_70 : decode cX11_factOf 70 = .ok (.aload_n 0, 1) := by decide +kernel
theorem dX11_factOf_71 : decode cX11_factOf 71 = .ok (.iload_n 3, 1) := by decide +kernel
theorem dX11_factOf_72 : decode cX11_factOf 72 = .ok (.iconst 2, 1) := by decide +kernel
theorem dX11_factOf_73 : decode cX11_factOf 73 = .ok (.invokevirtual 153, 3) := by decide +kernel
theorem dX11_factOf_76 : decode cX11_factOf 76 = .ok (.ireturn, 1) := by decide +kernel
theorem dX11_factOf_77 : decode cX11_factOf 77 = .ok (.aload_n 0, 1) := by decide +kernel
theorem dX11_factOf_78 : decode cX11_factOf 78 = .ok (.getfield 13, 3) := by decide +kernel
theorem dX11_factOf_81 : decode cX11_factOf 81 = .ok (.iconst 5, 1) := by decide +kernel
theorem dX11_factOf_82 : decode cX11_factOf 82 = .ok (.iaload, 1) := by decide +kernel
theorem dX11_factOf_83 : decode cX11_factOf 83 = .ok (.ireturn, 1) := by decide +kernel
theorem dX11_factOf_84 : decode cX11_factOf 84 = .ok (.aload_n 0, 1) := by decide +kernel
theorem dX11_factOf_85 : decode cX11_factOf 85 = .ok (.iload 4, 2) := by decide +kernel
theorem dX11_factOf_87 : decode cX11_factOf 87 = .ok (.bipush 6, 2) := by decide +kernel
theorem dX11_factOf_89 : decode cX11_factOf 89 = .ok (.invokevirtual 156, 3) := by decide +kernel
theorem dX11_factOf_92 : decode cX11_factOf 92 = .ok (.iload_n 3, 1) := by decide +kernel
theorem dX11_factOf_93 : decode cX11_factOf 93 = .ok (.if_icmp .ne 7, 3) := by decide +kernel
theorem dX11_factOf_96 : decode cX11_factOf 96 = .ok (.iconst 1, 1) := by decide +kernel
theorem dX11_factOf_97 : decode cX11_factOf 97 = .ok (.goto 4, 3) := by decide +kernel
theorem dX11_factOf_100 : decode cX11_factOf 100 = .ok (.iconst 0, 1) := by decide +kernel
theorem dX11_factOf_101 : decode cX11_factOf 101 = .ok (.ireturn, 1) := by decide +kernel
theorem dX11_factOf_102 : decode cX11_factOf 102 = .ok (.aload_n 0, 1) := by decide +kernel
theorem dX11_factOf_103 : decode cX11_factOf 103 = .ok (.iload_n 3, 1) := by decide +kernel
theorem dX11_factOf_104 : decode cX11_factOf 104 = .ok (.iload 4, 2) := by decide +kernel
theorem dX11_factOf_106 : decode cX11_factOf 106 = .ok (.invokevirtual 270, 3) := by decide +kernel
theorem dX11_factOf_109 : decode cX11_factOf 109 = .ok (.ifCond .eq 7, 3) := by decide +kernel
theorem dX11_factOf_112 : decode cX11_factOf 112 = .ok (.iconst 1, 1) := by decide +kernel
theorem dX11_factOf_113 : decode cX11_factOf 113 = .ok (.goto 4, 3) := by decide +kernel
theorem dX11_factOf_116 : decode cX11_factOf 116 = .ok (.iconst 0, 1) := by decide +kernel
theorem dX11_factOf_117 : decode cX11_factOf 117 = .ok (.ireturn, 1) := by decide +kernel
theorem dX11_factOf_118 : decode cX11_factOf 118 = .ok (.aload_n 0, 1) := by decide +kernel
theorem dX11_factOf_119 : decode cX11_factOf 119 = .ok (.iload 4, 2) := by decide +kernel
theorem dX11_factOf_121 : decode cX11_factOf 121 = .ok (.iconst 0, 1) := by decide +kernel
theorem dX11_factOf_122 : decode cX11_factOf 122 = .ok (.invokevirtual 156, 3) := by decide +kernel
theorem dX11_factOf_125 : decode cX11_factOf 125 = .ok (.aload_n 0, 1) := by decide +kernel
theorem dX11_factOf_126 : decode cX11_factOf 126 = .ok (.iload_n 3, 1) := by decide +kernel
theorem dX11_factOf_127 : decode cX11_factOf 127 = .ok (.iconst 3, 1) := by decide +kernel
theorem dX11_factOf_128 : decode cX11_factOf 128 = .ok (.invokevirtual 153, 3) := by decide +kernel
theorem dX11_factOf_131 : decode cX11_factOf 131 = .ok (.if_icmp .ne 7, 3) := by decide +kernel
theorem dX11_factOf_134 : decode cX11_factOf 134 = .ok (.iconst 1, 1) := by decide +kernel
theorem dX11_factOf_135 : decode cX11_factOf 135 = .ok (.goto 4, 3) := by decide +kernel
theorem dX11_factOf_138 : decode cX11_factOf 138 = .ok (.iconst 0, 1) := by decide +kernel
theorem dX11_factOf_139 : decode cX11_factOf 139 = .ok (.ireturn, 1) := by decide +kernel
theorem dX11_factOf_140 : decode cX11_factOf 140 = .ok (.iload_n 2, 1) := by decide +kernel
theorem dX11_factOf_141 : decode cX11_factOf 141 = .ok (.ireturn, 1) := by decide +kernel
set_option maxHeartbeats 4000000 in
set_option maxRecDepth 100000 in
/-- reference: factOf -/
theorem r_factOf (l : Launch) (D : va_G) (cI cJ cB cC : ClassId) (h : Nat) (th : Int32) (aw : Nat) (ai : Nat) (ab : Nat) (ac : Nat) (hi : Int32) (re : Int32) (aP : Nat) (ta : Int32) (po : Int32) (en : Int32) (be : Int32) (de : Int32) (fa : Int32) (a5 : Nat) (sp : Int32) (av : Nat) (an : Nat) (ak : Nat) (ne : Int32) (aW : Nat) (aC : Nat) (ag : Nat) (aT : Nat) (aN : Nat) (aF : Nat) (fw : Nat → Int32) (st : Int32) (n : Int32) (mm : Int32) (b : Int32) (sz : Nat) (H_mm : Rg mm 0 9) (H_b : Rg b 0 11) (H_st : Rg st 0 12) (H_fw_W : wW fw) : Met l yX11_factOf kwX11_factOf ({ frames := 3, cells := 0, slots := 0, locals := 66 } : Room) (kPre D (kT cI cJ cB cC) sz [(h, oX11 th aw ai ab ac hi re aP ta po en be de fa a5 sp av an ak ne aW aC ag aT aN aF), (aw, .inl (cI, 2179, .inl fw))] [.ref h, .int st, .int n, .int mm, .int b]) (va_Qi (fun (r : Int32) (_ : Unit) => True) (fun (_ : Unit) (t : State) => kB D (kT cI cJ cB cC) (va_A [(h, oX11 th aw ai ab ac hi re aP ta po en be de fa a5 sp av an ak ne aW aC ag aT aN aF), (aw, .inl (cI, 2179, .inl fw))] sz) [(h, oX11 th aw ai ab ac hi re aP ta po en be de fa a5 sp av an ak ne aW aC ag aT aN aF), (aw, .inl (cI, 2179, .inl fw))] t) (va_A [(h, oX11 th aw ai ab ac hi re aP ta po en be de fa a5 sp av an ak ne aW aC ag aT aN aF), (aw, .inl (cI, 2179, .inl fw))] sz)) 0 0 (va_A [(h, oX11 th aw ai ab ac hi re aP ta po en be de fa a5 sp av an ak ne aW aC ag aT aN aF), (aw, .inl (cI, 2179, .inl fw))] sz) := by
  refine Met.ofW (cc := cX11_factOf) (maxL := 5) (ret := (some .int)) (by decide) rfl ?_
  intro p e s m args below meth c s₁ B hml hv
  obtain ⟨rfl, hsz, hN, hE, hP, hK, hD0⟩ := hv
  have hx := B.exec
  have hb := B.bytes
  have hr := B.returns
  have hts := fun (w : Cond) (h : w ∈ kG) => atoms_spec (ws := kwX11_factOf) B.pre w (List.mem_cons_of_mem _ h)
  have hown : s.vm.findClass RX11 = some m.cls := findClass_of_methodNamed B.named
  subst hsz
  have hD := hD0.self (sz := s.heap.size)
  generalize hAe : va_A [(h, oX11 th aw ai ab ac hi re aP ta po en be de fa a5 sp av an ak ne aW aC ag aT aN aF), (aw, .inl (cI, 2179, .inl fw))] s.heap.size = A at hD hE ⊢
  have hA : ∀ q : Nat, s.heap.size ≤ q → A q := fun q h => by rw [← hAe]; exact Or.inr h
  have hl := lv_entry ([.ref h, .int st, .int n, .int mm, .int b]) (n := 5) (Nat.le_of_ble_eq_true rfl)
  rw [lg_entry_eq]
  generalize (lg_sl ([.ref h, .int st, .int n, .int mm, .int b]) ++ List.replicate (5 - (lg_sl ([.ref h, .int st, .int n, .int mm, .int b])).length) Slot.unset).toArray = ls at hl ⊢
  have hl : lv_has ls 5 [(0, .ref h), (1, .int st), (2, .int n), (3, .int mm), (4, .int b)] := hl
  obtain ⟨H, hH0⟩ : ∃ H, H = s.heap := ⟨_, rfl⟩
  have hS : va_S A s.heap H [] := by rw [hH0]; exact va_S.rf
  have hP : va_P D vwCl [(h, oX11 th aw ai ab ac hi re aP ta po en be de fa a5 sp av an ak ne aW aC ag aT aN aF), (aw, .inl (cI, 2179, .inl fw))] H := by rw [hH0]; exact hP
  refine kHeap hH0 ?_
  clear hH0
  refine lv_iload_n hx hb dX11_factOf_0 rfl (lv_at hl 1 rfl) ?_
  refine lv_iconst (v := 4) hx hb dX11_factOf_1 (by decide) ?_
  refine lv_icmp_gt (tgt := 13) hx hb dX11_factOf_2 (by decide) (fun c1 => ?_) (fun c1 => ?_)
  · skip
    have k2 : Rg st 5 12 := rg_l2 (ltI c1) (rg_lit (n := 4) (by decide)) H_st (by decide)
    refine lv_iload_n hx hb dX11_factOf_13 rfl (lv_at hl 1 rfl) ?_
    by_cases c3 : st.toInt < 5 ∨ 11 < st.toInt
    · skip
      refine lv_tableOut (tgt := 140) hx hb dX11_factOf_14 c3 (by decide) ?_
      refine lv_iload_n hx hb dX11_factOf_140 rfl (lv_at hl 2 rfl) ?_
      have hP9 := hP.sub (ws' := [(h, oX11 th aw ai ab ac hi re aP ta po en be de fa a5 sp av an ak ne aW aC ag aT aN aF), (aw, .inl (cI, 2179, .inl fw))]) [0, 1] rfl
      have hD9 := hD.sub (ws' := [(h, oX11 th aw ai ab ac hi re aP ta po en be de fa a5 sp av an ak ne aW aC ag aT aN aF), (aw, .inl (cI, 2179, .inl fw))]) [0, 1] (by decide) rfl
      exact W.iret (v := n) hx hb hr (fun t ht hW => ⟨⟨n, (), rfl, trivial, by rw [ht]; exact hP9, va_K.moved hW.alike hK, hD9⟩, hS.F ht⟩) hS.2.2 dX11_factOf_141
    · skip
      have k4 : Rg st 5 11 := rg_tab c3 k2 (by decide)
      rcases (show st.toInt = 5 ∨ st.toInt = 6 ∨ st.toInt = 7 ∨ st.toInt = 8 ∨ st.toInt = 9 ∨ st.toInt = 10 ∨ st.toInt = 11 by have q := k4; unfold Rg at q; omega) with c5 | c5 | c5 | c5 | c5 | c5 | c5
      · skip
        refine lv_tableIn (tgt := 56) (off := 42) hx hb dX11_factOf_14 (by rw [c5]; decide) (by rw [c5]; decide) (by rw [c5]; rfl) (by decide) ?_
        have k6 : Rg st 5 5 := rg_toI c5
        refine lv_aload_n hx hb dX11_factOf_56 rfl (lv_at hl 0 rfl) ?_
        refine lv_iload_n hx hb dX11_factOf_57 rfl (lv_at hl 3 rfl) ?_
        refine lv_iconst (v := 1) hx hb dX11_factOf_58 (by decide) ?_
        refine kpurei (wc := [(h, oX11 th aw ai ab ac hi re aP ta po en be de fa a5 sp av an ak ne aW aC ag aT aN aF), (aw, .inl (cI, 2179, .inl fw))]) hP hD hS hA [0, 1] rfl (by decide) (fun hPc hDc hFc => va_runV (As := [.int mm, .int 1]) (rest := []) ⟨hx, hb, hml, hown, hts⟩ (r_ofMan1 l D cI cJ cB cC h th aw ai ab ac hi re aP ta po en be de fa a5 sp av an ak ne aW aC ag aT aN aF fw mm H.size H_mm H_fw_W) (cwV 2 hts gX11_factOf_X11_ofMan rfl rfl rfl ⟨rfl, hdX11_ofMan⟩ ⟨Nat.le_of_ble_eq_true rfl, Nat.le_of_ble_eq_true rfl⟩) ⟨kBlind, va_recv hK hPc (ci := 10) (q0 := 0) rfl rfl, fun U hU hW => ⟨rfl, by rw [hU], hN.warm hW, hE.pass hS hFc hW hU, by rw [hU]; exact hPc, va_K.moved hW.alike hK, hDc⟩⟩ rfl rfl hl.1 rfl (lv_room (Nat.le_of_ble_eq_true rfl)) dX11_factOf_59 ⟨Nat.le_of_ble_eq_true rfl, Nat.le_of_ble_eq_true rfl⟩) (fun r7 u H locs hw hP hS => ?_)
        have k8 := hw
        have hP9 := hP.sub (ws' := [(h, oX11 th aw ai ab ac hi re aP ta po en be de fa a5 sp av an ak ne aW aC ag aT aN aF), (aw, .inl (cI, 2179, .inl fw))]) [0, 1] rfl
        have hD9 := hD.sub (ws' := [(h, oX11 th aw ai ab ac hi re aP ta po en be de fa a5 sp av an ak ne aW aC ag aT aN aF), (aw, .inl (cI, 2179, .inl fw))]) [0, 1] (by decide) rfl
        exact W.iret (v := r7) hx hb hr (fun t ht hW => ⟨⟨r7, (), rfl, trivial, by rw [ht]; exact hP9, va_K.moved hW.alike hK, hD9⟩, hS.F ht⟩) hS.2.2 dX11_factOf_62
      · skip
        refine lv_tableIn (tgt := 63) (off := 49) hx hb dX11_factOf_14 (by rw [c5]; decide) (by rw [c5]; decide) (by rw [c5]; rfl) (by decide) ?_
        have k9 : Rg st 6 6 := rg_toI c5
        refine lv_aload_n hx hb dX11_factOf_63 rfl (lv_at hl 0 rfl) ?_
        refine lv_iload_n hx hb dX11_factOf_64 rfl (lv_at hl 3 rfl) ?_
        refine lv_iconst (v := 0) hx hb dX11_factOf_65 (by decide) ?_
        refine kpurei (wc := [(h, oX11 th aw ai ab ac hi re aP ta po en be de fa a5 sp av an ak ne aW aC ag aT aN aF), (aw, .inl (cI, 2179, .inl fw))]) hP hD hS hA [0, 1] rfl (by decide) (fun hPc hDc hFc => va_runV (As := [.int mm, .int 0]) (rest := []) ⟨hx, hb, hml, hown, hts⟩ (r_ofMan0 l D cI cJ cB cC h th aw ai ab ac hi re aP ta po en be de fa a5 sp av an ak ne aW aC ag aT aN aF fw mm H.size H_mm H_fw_W) (cwV 2 hts gX11_factOf_X11_ofMan rfl rfl rfl ⟨rfl, hdX11_ofMan⟩ ⟨Nat.le_of_ble_eq_true rfl, Nat.le_of_ble_eq_true rfl⟩) ⟨kBlind, va_recv hK hPc (ci := 10) (q0 := 0) rfl rfl, fun U hU hW => ⟨rfl, by rw [hU], hN.warm hW, hE.pass hS hFc hW hU, by rw [hU]; exact hPc, va_K.moved hW.alike hK, hDc⟩⟩ rfl rfl hl.1 rfl (lv_room (Nat.le_of_ble_eq_true rfl)) dX11_factOf_66 ⟨Nat.le_of_ble_eq_true rfl, Nat.le_of_ble_eq_true rfl⟩) (fun r10 u H locs hw hP hS => ?_)
        have k11 := hw
        have hP9 := hP.sub (ws' := [(h, oX11 th aw ai ab ac hi re aP ta po en be de fa a5 sp av an ak ne aW aC ag aT aN aF), (aw, .inl (cI, 2179, .inl fw))]) [0, 1] rfl
        have hD9 := hD.sub (ws' := [(h, oX11 th aw ai ab ac hi re aP ta po en be de fa a5 sp av an ak ne aW aC ag aT aN aF), (aw, .inl (cI, 2179, .inl fw))]) [0, 1] (by decide) rfl
        exact W.iret (v := r10) hx hb hr (fun t ht hW => ⟨⟨r10, (), rfl, trivial, by rw [ht]; exact hP9, va_K.moved hW.alike hK, hD9⟩, hS.F ht⟩) hS.2.2 dX11_factOf_69
      · skip
        refine lv_tableIn (tgt := 70) (off := 56) hx hb dX11_factOf_14 (by rw [c5]; decide) (by rw [c5]; decide) (by rw [c5]; rfl) (by decide) ?_
        have k12 : Rg st 7 7 := rg_toI c5
        refine lv_aload_n hx hb dX11_factOf_70 rfl (lv_at hl 0 rfl) ?_
        refine lv_iload_n hx hb dX11_factOf_71 rfl (lv_at hl 3 rfl) ?_
        refine lv_iconst (v := 2) hx hb dX11_factOf_72 (by decide) ?_
        refine kpurei (wc := [(h, oX11 th aw ai ab ac hi re aP ta po en be de fa a5 sp av an ak ne aW aC ag aT aN aF), (aw, .inl (cI, 2179, .inl fw))]) hP hD hS hA [0, 1] rfl (by decide) (fun hPc hDc hFc => va_runV (As := [.int mm, .int 2]) (rest := []) ⟨hx, hb, hml, hown, hts⟩ (r_ofMan2 l D cI cJ cB cC h th aw ai ab ac hi re aP ta po en be de fa a5 sp av an ak ne aW aC ag aT aN aF fw mm H.size H_mm H_fw_W) (cwV 2 hts gX11_factOf_X11_ofMan rfl rfl rfl ⟨rfl, hdX11_ofMan⟩ ⟨Nat.le_of_ble_eq_true rfl, Nat.le_of_ble_eq_true rfl⟩) ⟨kBlind, va_recv hK hPc (ci := 10) (q0 := 0) rfl rfl, fun U hU hW => ⟨rfl, by rw [hU], hN.warm hW, hE.pass hS hFc hW hU, by rw [hU]; exact hPc, va_K.moved hW.alike hK, hDc⟩⟩ rfl rfl hl.1 rfl (lv_room (Nat.le_of_ble_eq_true rfl)) dX11_factOf_73 ⟨Nat.le_of_ble_eq_true rfl, Nat.le_of_ble_eq_true rfl⟩) (fun r13 u H locs hw hP hS => ?_)
        obtain ⟨k14, k15⟩ := hw
        have hP9 := hP.sub (ws' := [(h, oX11 th aw ai ab ac hi re aP ta po en be de fa a5 sp av an ak ne aW aC ag aT aN aF), (aw, .inl (cI, 2179, .inl fw))]) [0, 1] rfl
        have hD9 := hD.sub (ws' := [(h, oX11 th aw ai ab ac hi re aP ta po en be de fa a5 sp av an ak ne aW aC ag aT aN aF), (aw, .inl (cI, 2179, .inl fw))]) [0, 1] (by decide) rfl
        exact W.iret (v := r13) hx hb hr (fun t ht hW => ⟨⟨r13, (), rfl, trivial, by rw [ht]; exact hP9, va_K.moved hW.alike hK, hD9⟩, hS.F ht⟩) hS.2.2 dX11_factOf_76
      · skip
        refine lv_tableIn (tgt := 77) (off := 63) hx hb dX11_factOf_14 (by rw [c5]; decide) (by rw [c5]; decide) (by rw [c5]; rfl) (by decide) ?_
        have k16 : Rg st 8 8 := rg_toI c5
        refine lv_aload_n hx hb dX11_factOf_77 rfl (lv_at hl 0 rfl) ?_
        refine va_get (D := D) (ci := 10) (v := .ref aw) (C := RX11) (T := TX11) (N := 26) hx hb hts iG_X11 hown hK hP 0 rfl rfl 1 (by decide) (hts _ w5_3) (fun _ h9 => h9) rfl dX11_factOf_78 ?_
        refine lv_iconst (v := 5) hx hb dX11_factOf_81 (by decide) ?_
        refine va_iald hx hb hK hP 1 0 rfl rfl (rg_in (rg_lit (n := 5) (by decide)) (by decide)) dX11_factOf_82 ?_
        refine lv_topi (fun x17 ex17 => ?_)
        clear ex17
        have hP9 := hP.sub (ws' := [(h, oX11 th aw ai ab ac hi re aP ta po en be de fa a5 sp av an ak ne aW aC ag aT aN aF), (aw, .inl (cI, 2179, .inl fw))]) [0, 1] rfl
        have hD9 := hD.sub (ws' := [(h, oX11 th aw ai ab ac hi re aP ta po en be de fa a5 sp av an ak ne aW aC ag aT aN aF), (aw, .inl (cI, 2179, .inl fw))]) [0, 1] (by decide) rfl
        exact W.iret (v := x17) hx hb hr (fun t ht hW => ⟨⟨x17, (), rfl, trivial, by rw [ht]; exact hP9, va_K.moved hW.alike hK, hD9⟩, hS.F ht⟩) hS.2.2 dX11_factOf_83
      · skip
        refine lv_tableIn (tgt := 84) (off := 70) hx hb dX11_factOf_14 (by rw [c5]; decide) (by rw [c5]; decide) (by rw [c5]; rfl) (by decide) ?_
        have k18 : Rg st 9 9 := rg_toI c5
        refine lv_aload_n hx hb dX11_factOf_84 rfl (lv_at hl 0 rfl) ?_
        refine lv_iload hx hb dX11_factOf_85 (lv_at hl 4 rfl) ?_
        refine lv_bipush (v := 6) hx hb dX11_factOf_87 (by decide) ?_
        refine kpurei (wc := [(h, oX11 th aw ai ab ac hi re aP ta po en be de fa a5 sp av an ak ne aW aC ag aT aN aF), (aw, .inl (cI, 2179, .inl fw))]) hP hD hS hA [0, 1] rfl (by decide) (fun hPc hDc hFc => va_runV (As := [.int b, .int 6]) (rest := []) ⟨hx, hb, hml, hown, hts⟩ (r_of6 l D cI cJ cB cC h th aw ai ab ac hi re aP ta po en be de fa a5 sp av an ak ne aW aC ag aT aN aF fw b H.size H_b H_fw_W) (cwV 2 hts gX11_factOf_X11_of rfl rfl rfl ⟨rfl, hdX11_of⟩ ⟨Nat.le_of_ble_eq_true rfl, Nat.le_of_ble_eq_true rfl⟩) ⟨kBlind, va_recv hK hPc (ci := 10) (q0 := 0) rfl rfl, fun U hU hW => ⟨rfl, by rw [hU], hN.warm hW, hE.pass hS hFc hW hU, by rw [hU]; exact hPc, va_K.moved hW.alike hK, hDc⟩⟩ rfl rfl hl.1 rfl (lv_room (Nat.le_of_ble_eq_true rfl)) dX11_factOf_89 ⟨Nat.le_of_ble_eq_true rfl, Nat.le_of_ble_eq_true rfl⟩) (fun r19 u H locs hw hP hS => ?_)
        obtain ⟨k20, k21⟩ := hw
        refine lv_iload_n hx hb dX11_factOf_92 rfl (lv_at hl 3 rfl) ?_
        refine lv_icmp_ne (tgt := 100) hx hb dX11_factOf_93 (by decide) (fun c24 => ?_) (fun c24 => ?_)
        · skip
          refine lv_iconst (v := 0) hx hb dX11_factOf_100 (by decide) ?_
          have hP9 := hP.sub (ws' := [(h, oX11 th aw ai ab ac hi re aP ta po en be de fa a5 sp av an ak ne aW aC ag aT aN aF), (aw, .inl (cI, 2179, .inl fw))]) [0, 1] rfl
          have hD9 := hD.sub (ws' := [(h, oX11 th aw ai ab ac hi re aP ta po en be de fa a5 sp av an ak ne aW aC ag aT aN aF), (aw, .inl (cI, 2179, .inl fw))]) [0, 1] (by decide) rfl
          exact W.iret (v := 0) hx hb hr (fun t ht hW => ⟨⟨0, (), rfl, trivial, by rw [ht]; exact hP9, va_K.moved hW.alike hK, hD9⟩, hS.F ht⟩) hS.2.2 dX11_factOf_101
        · skip
          have k25 : Rg r19 0 9 := rg_q1 (eqI c24) k21 H_mm (by decide)
          refine lv_iconst (v := 1) hx hb dX11_factOf_96 (by decide) ?_
          refine lv_goto (tgt := 101) hx hb dX11_factOf_97 (by decide) ?_
          have hP9 := hP.sub (ws' := [(h, oX11 th aw ai ab ac hi re aP ta po en be de fa a5 sp av an ak ne aW aC ag aT aN aF), (aw, .inl (cI, 2179, .inl fw))]) [0, 1] rfl
          have hD9 := hD.sub (ws' := [(h, oX11 th aw ai ab ac hi re aP ta po en be de fa a5 sp av an ak ne aW aC ag aT aN aF), (aw, .inl (cI, 2179, .inl fw))]) [0, 1] (by decide) rfl
          exact W.iret (v := 1) hx hb hr (fun t ht hW => ⟨⟨1, (), rfl, trivial, by rw [ht]; exact hP9, va_K.moved hW.alike hK, hD9⟩, hS.F ht⟩) hS.2.2 dX11_factOf_101
      · skip
        refine lv_tableIn (tgt := 102) (off := 88) hx hb dX11_factOf_14 (by rw [c5]; decide) (by rw [c5]; decide) (by rw [c5]; rfl) (by decide) ?_
        have k26 : Rg st 10 10 := rg_toI c5
        refine lv_aload_n hx hb dX11_factOf_102 rfl (lv_at hl 0 rfl) ?_
        refine lv_iload_n hx hb dX11_factOf_103 rfl (lv_at hl 3 rfl) ?_
        refine lv_iload hx hb dX11_factOf_104 (lv_at hl 4 rfl) ?_
        refine kpurei (wc := [(h, oX11 th aw ai ab ac hi re aP ta po en be de fa a5 sp av an ak ne aW aC ag aT aN aF), (aw, .inl (cI, 2179, .inl fw))]) hP hD hS hA [0, 1] rfl (by decide) (fun hPc hDc hFc => va_runV (As := [.int mm, .int b]) (rest := []) ⟨hx, hb, hml, hown, hts⟩ (r_isNextToLast l D cI cJ cB cC h th aw ai ab ac hi re aP ta po en be de fa a5 sp av an ak ne aW aC ag aT aN aF fw mm b H.size H_mm H_b H_fw_W) (cwV 2 hts gX11_factOf_X11_isNextToLast rfl rfl rfl ⟨rfl, hdX11_isNextToLast⟩ ⟨Nat.le_of_ble_eq_true rfl, Nat.le_of_ble_eq_true rfl⟩) ⟨kBlind, va_recv hK hPc (ci := 10) (q0 := 0) rfl rfl, fun U hU hW => ⟨rfl, by rw [hU], hN.warm hW, hE.pass hS hFc hW hU, by rw [hU]; exact hPc, va_K.moved hW.alike hK, hDc⟩⟩ rfl rfl hl.1 rfl (lv_room (Nat.le_of_ble_eq_true rfl)) dX11_factOf_106 ⟨Nat.le_of_ble_eq_true rfl, Nat.le_of_ble_eq_true rfl⟩) (fun r27 u H locs hw hP hS => ?_)
        rcases hw with rfl | rfl
        · skip
          refine lv_if_eq (tgt := 116) hx hb dX11_factOf_109 (by decide) (fun _ => ?_) (fun c30 => absurd (by decide) c30)
          refine lv_iconst (v := 0) hx hb dX11_factOf_116 (by decide) ?_
          have hP9 := hP.sub (ws' := [(h, oX11 th aw ai ab ac hi re aP ta po en be de fa a5 sp av an ak ne aW aC ag aT aN aF), (aw, .inl (cI, 2179, .inl fw))]) [0, 1] rfl
          have hD9 := hD.sub (ws' := [(h, oX11 th aw ai ab ac hi re aP ta po en be de fa a5 sp av an ak ne aW aC ag aT aN aF), (aw, .inl (cI, 2179, .inl fw))]) [0, 1] (by decide) rfl
          exact W.iret (v := 0) hx hb hr (fun t ht hW => ⟨⟨0, (), rfl, trivial, by rw [ht]; exact hP9, va_K.moved hW.alike hK, hD9⟩, hS.F ht⟩) hS.2.2 dX11_factOf_117
        · skip
          refine lv_if_eq (tgt := 116) hx hb dX11_factOf_109 (by decide) (fun c32 => absurd c32 (by decide)) (fun _ => ?_)
          refine lv_iconst (v := 1) hx hb dX11_factOf_112 (by decide) ?_
          refine lv_goto (tgt := 117) hx hb dX11_factOf_113 (by decide) ?_
          have hP9 := hP.sub (ws' := [(h, oX11 th aw ai ab ac hi re aP ta po en be de fa a5 sp av an ak ne aW aC ag aT aN aF), (aw, .inl (cI, 2179, .inl fw))]) [0, 1] rfl
          have hD9 := hD.sub (ws' := [(h, oX11 th aw ai ab ac hi re aP ta po en be de fa a5 sp av an ak ne aW aC ag aT aN aF), (aw, .inl (cI, 2179, .inl fw))]) [0, 1] (by decide) rfl
          exact W.iret (v := 1) hx hb hr (fun t ht hW => ⟨⟨1, (), rfl, trivial, by rw [ht]; exact hP9, va_K.moved hW.alike hK, hD9⟩, hS.F ht⟩) hS.2.2 dX11_factOf_117
      · skip
        refine lv_tableIn (tgt := 118) (off := 104) hx hb dX11_factOf_14 (by rw [c5]; decide) (by rw [c5]; decide) (by rw [c5]; rfl) (by decide) ?_
        have k33 : Rg st 11 11 := rg_toI c5
        refine lv_aload_n hx hb dX11_factOf_118 rfl (lv_at hl 0 rfl) ?_
        refine lv_iload hx hb dX11_factOf_119 (lv_at hl 4 rfl) ?_
        refine lv_iconst (v := 0) hx hb dX11_factOf_121 (by decide) ?_
        refine kpurei (wc := [(h, oX11 th aw ai ab ac hi re aP ta po en be de fa a5 sp av an ak ne aW aC ag aT aN aF), (aw, .inl (cI, 2179, .inl fw))]) hP hD hS hA [0, 1] rfl (by decide) (fun hPc hDc hFc => va_runV (As := [.int b, .int 0]) (rest := []) ⟨hx, hb, hml, hown, hts⟩ (r_of0 l D cI cJ cB cC h th aw ai ab ac hi re aP ta po en be de fa a5 sp av an ak ne aW aC ag aT aN aF fw b H.size H_b H_fw_W) (cwV 2 hts gX11_factOf_X11_of rfl rfl rfl ⟨rfl, hdX11_of⟩ ⟨Nat.le_of_ble_eq_true rfl, Nat.le_of_ble_eq_true rfl⟩) ⟨kBlind, va_recv hK hPc (ci := 10) (q0 := 0) rfl rfl, fun U hU hW => ⟨rfl, by rw [hU], hN.warm hW, hE.pass hS hFc hW hU, by rw [hU]; exact hPc, va_K.moved hW.alike hK, hDc⟩⟩ rfl rfl hl.1 rfl (lv_room (Nat.le_of_ble_eq_true rfl)) dX11_factOf_122 ⟨Nat.le_of_ble_eq_true rfl, Nat.le_of_ble_eq_true rfl⟩) (fun r34 u H locs hw hP hS => ?_)
        have k35 := hw
        refine lv_aload_n hx hb dX11_factOf_125 rfl (lv_at hl 0 rfl) ?_
        refine lv_iload_n hx hb dX11_factOf_126 rfl (lv_at hl 3 rfl) ?_
        refine lv_iconst (v := 3) hx hb dX11_factOf_127 (by decide) ?_
        refine kpurei (wc := [(h, oX11 th aw ai ab ac hi re aP ta po en be de fa a5 sp av an ak ne aW aC ag aT aN aF), (aw, .inl (cI, 2179, .inl fw))]) hP hD hS hA [0, 1] rfl (by decide) (fun hPc hDc hFc => va_runV (As := [.int mm, .int 3]) (rest := [.int r34]) ⟨hx, hb, hml, hown, hts⟩ (r_ofMan3 l D cI cJ cB cC h th aw ai ab ac hi re aP ta po en be de fa a5 sp av an ak ne aW aC ag aT aN aF fw mm H.size H_mm H_fw_W) (cwV 2 hts gX11_factOf_X11_ofMan rfl rfl rfl ⟨rfl, hdX11_ofMan⟩ ⟨Nat.le_of_ble_eq_true rfl, Nat.le_of_ble_eq_true rfl⟩) ⟨kBlind, va_recv hK hPc (ci := 10) (q0 := 0) rfl rfl, fun U hU hW => ⟨rfl, by rw [hU], hN.warm hW, hE.pass hS hFc hW hU, by rw [hU]; exact hPc, va_K.moved hW.alike hK, hDc⟩⟩ rfl rfl hl.1 rfl (lv_room (Nat.le_of_ble_eq_true rfl)) dX11_factOf_128 ⟨Nat.le_of_ble_eq_true rfl, Nat.le_of_ble_eq_true rfl⟩) (fun r36 u H locs hw hP hS => ?_)
        have k37 := hw
        refine lv_icmp_ne (tgt := 138) hx hb dX11_factOf_131 (by decide) (fun c39 => ?_) (fun c39 => ?_)
        · skip
          refine lv_iconst (v := 0) hx hb dX11_factOf_138 (by decide) ?_
          have hP9 := hP.sub (ws' := [(h, oX11 th aw ai ab ac hi re aP ta po en be de fa a5 sp av an ak ne aW aC ag aT aN aF), (aw, .inl (cI, 2179, .inl fw))]) [0, 1] rfl
          have hD9 := hD.sub (ws' := [(h, oX11 th aw ai ab ac hi re aP ta po en be de fa a5 sp av an ak ne aW aC ag aT aN aF), (aw, .inl (cI, 2179, .inl fw))]) [0, 1] (by decide) rfl
          exact W.iret (v := 0) hx hb hr (fun t ht hW => ⟨⟨0, (), rfl, trivial, by rw [ht]; exact hP9, va_K.moved hW.alike hK, hD9⟩, hS.F ht⟩) hS.2.2 dX11_factOf_139
        · skip
          refine lv_iconst (v := 1) hx hb dX11_factOf_134 (by decide) ?_
          refine lv_goto (tgt := 139) hx hb dX11_factOf_135 (by decide) ?_
          have hP9 := hP.sub (ws' := [(h, oX11 th aw ai ab ac hi re aP ta po en be de fa a5 sp av an ak ne aW aC ag aT aN aF), (aw, .inl (cI, 2179, .inl fw))]) [0, 1] rfl
          have hD9 := hD.sub (ws' := [(h, oX11 th aw ai ab ac hi re aP ta po en be de fa a5 sp av an ak ne aW aC ag aT aN aF), (aw, .inl (cI, 2179, .inl fw))]) [0, 1] (by decide) rfl
          exact W.iret (v := 1) hx hb hr (fun t ht hW => ⟨⟨1, (), rfl, trivial, by rw [ht]; exact hP9, va_K.moved hW.alike hK, hD9⟩, hS.F ht⟩) hS.2.2 dX11_factOf_139
  · skip
    have k40 : Rg st 0 4 := rg_e1 (nltI c1) H_st (rg_lit (n := 4) (by decide)) (by decide)
    refine lv_aload_n hx hb dX11_factOf_5 rfl (lv_at hl 0 rfl) ?_
    refine lv_iload hx hb dX11_factOf_6 (lv_at hl 4 rfl) ?_
    refine lv_iload_n hx hb dX11_factOf_8 rfl (lv_at hl 1 rfl) ?_
    refine kpurei (wc := [(h, oX11 th aw ai ab ac hi re aP ta po en be de fa a5 sp av an ak ne aW aC ag aT aN aF), (aw, .inl (cI, 2179, .inl fw))]) hP hD hS hA [0, 1] rfl (by decide) (fun hPc hDc hFc => va_runV (As := [.int b, .int st]) (rest := []) ⟨hx, hb, hml, hown, hts⟩ (r_of l D cI cJ cB cC h th aw ai ab ac hi re aP ta po en be de fa a5 sp av an ak ne aW aC ag aT aN aF fw b st H.size H_b (rg_w k40 (by decide)) H_fw_W) (cwV 2 hts gX11_factOf_X11_of rfl rfl rfl ⟨rfl, hdX11_of⟩ ⟨Nat.le_of_ble_eq_true rfl, Nat.le_of_ble_eq_true rfl⟩) ⟨kBlind, va_recv hK hPc (ci := 10) (q0 := 0) rfl rfl, fun U hU hW => ⟨rfl, by rw [hU], hN.warm hW, hE.pass hS hFc hW hU, by rw [hU]; exact hPc, va_K.moved hW.alike hK, hDc⟩⟩ rfl rfl hl.1 rfl (lv_room (Nat.le_of_ble_eq_true rfl)) dX11_factOf_9 ⟨Nat.le_of_ble_eq_true rfl, Nat.le_of_ble_eq_true rfl⟩) (fun r41 u H locs hw hP hS => ?_)
    have hP9 := hP.sub (ws' := [(h, oX11 th aw ai ab ac hi re aP ta po en be de fa a5 sp av an ak ne aW aC ag aT aN aF), (aw, .inl (cI, 2179, .inl fw))]) [0, 1] rfl
    have hD9 := hD.sub (ws' := [(h, oX11 th aw ai ab ac hi re aP ta po en be de fa a5 sp av an ak ne aW aC ag aT aN aF), (aw, .inl (cI, 2179, .inl fw))]) [0, 1] (by decide) rfl
    exact W.iret (v := r41) hx hb hr (fun t ht hW => ⟨⟨r41, (), rfl, trivial, by rw [ht]; exact hP9, va_K.moved hW.alike hK, hD9⟩, hS.F ht⟩) hS.2.2 dX11_factOf_12

def kwX11_holdsLine : List Cond := .code yX11_holdsLine cX11_holdsLine 11 (some .boolean) :: kG
theorem hdX11_holdsLine : yX11_holdsLine.cls ≠ "java/lang/invoke/MethodHandle" ∧ yX11_holdsLine.cls ≠ "java/lang/invoke/VarHandle" ∧ (parseMethodDescriptor yX11_holdsLine.desc).map (fun d => d.parameters.length) = some 3 := by decide +kernel
theorem gX11_holdsLine_X11_factOf : GoodIn kG (wsV RX11 273 RX11 yX11_factOf kwX11_factOf) := gK w30_19 (gK w30_20 (gK w30_21 (gK w0_5 (gK w30_22 gGG))))
theorem dX11_holdsLine_0 : decode cX11_holdsLine 0 = .ok (.iconst 0, 1) := by decide +kernel
theorem dX11_holdsLine_1 : decode cX11_holdsLine 1 = .ok (.istore 4, 2) := by decide +kernel
theorem dX11_holdsLine_3 : decode cX11_holdsLine 3 = .ok (.sipush 506, 3) := by decide +kernel
theorem dX11_holdsLine_6 : decode cX11_holdsLine 6 = .ok (.iconst 3, 1) := by decide +kernel
theorem dX11_holdsLine_7 : decode cX11_holdsLine 7 = .ok (.iload_n 1, 1) := by decide +kernel
theorem dX11_holdsLine_8 : decode cX11_holdsLine 8 = .ok (.imul, 1) := by decide +kernel
theorem dX11_holdsLine_9 : decode cX11_holdsLine 9 = .ok (.iadd, 1) := by decide +kernel
theorem dX11_holdsLine_10 : decode cX11_holdsLine 10 = .ok (.istore 5, 2) := by decide +kernel
theorem dX11_holdsLine_12 : decode cX11_holdsLine 12 = .ok (.aload_n 0, 1) := by decide +kernel
theorem dX11_holdsLine_13 : decode cX11_holdsLine 13 = .ok (.getfield 13, 3) := by decide +kernel
theorem dX11_holdsLine_16 : decode cX11_holdsLine 16 = .ok (.iload 5, 2) := by decide +kernel
theorem dX11_holdsLine_18 : decode cX11_holdsLine 18 = .ok (.iconst 1, 1) := by decide +kernel
theorem dX11_holdsLine_19 : decode cX11_holdsLine 19 = .ok (.iadd, 1) := by decide +kernel
theorem dX11_holdsLine_20 : decode cX11_holdsLine 20 = .ok (.iaload, 1) := by decide +kernel
theorem dX11_holdsLine_21 : decode cX11_holdsLine 21 = .ok (.istore 6, 2) := by decide +kernel
theorem dX11_holdsLine_23 : decode cX11_holdsLine 23 = .ok (.iload 6, 2) := by decide +kernel
theorem dX11_holdsLine_25 : decode cX11_holdsLine 25 = .ok (.aload_n 0, 1) := by decide +kernel
theorem dX11_holdsLine_26 : decode cX11_holdsLine 26 = .ok (.getfield 13, 3) := by decide +kernel
theorem dX11_holdsLine_29 : decode cX11_holdsLine 29 = .ok (.iload 5, 2) := by decide +kernel
theorem dX11_holdsLine_31 : decode cX11_holdsLine 31 = .ok (.iconst 2, 1) := by decide +kernel
theorem dX11_holdsLine_32 : decode cX11_holdsLine 32 = .ok (.iadd, 1) := by decide +kernel
theorem dX11_holdsLine_33 : decode cX11_holdsLine 33 = .ok (.iaload, 1) := by decide +kernel
theorem dX11_holdsLine_34 : decode cX11_holdsLine 34 = .ok (.if_icmp .ge 237, 3) := by decide +kernel
theorem dX11_holdsLine_37 : decode cX11_holdsLine 37 = .ok (.aload_n 0, 1) := by decide +kernel
theorem dX11_holdsLine_38 : decode cX11_holdsLine 38 = .ok (.getfield 13, 3) := by decide +kernel
theorem dX11_holdsLine_41 : decode cX11_holdsLine 41 = .ok (.sipush 542, 3) := by decide +kernel
theorem dX11_holdsLine_44 : decode cX11_holdsLine 44 = .ok (.iconst 2, 1) := by decide +kernel
theorem dX11_holdsLine_45 : decode cX11_holdsLine 45 = .ok (.iload 6, 2) := by decide +kernel
theorem dX11_holdsLine_47 : decode cX11_holdsLine 47 = .ok (.imul, 1) := by decide +kernel
theorem dX11_holdsLine_48 : decode cX11_holdsLine 48 = .ok (.iadd, 1) := by decide +kernel
theorem dX11_holdsLine_49 : decode cX11_holdsLine 49 = .ok (.iaload, 1) := by decide +kernel
theorem dX11_holdsLine_50 : decode cX11_holdsLine 50 = .ok (.istore 7, 2) := by decide +kernel
theorem dX11_holdsLine_52 : decode cX11_holdsLine 52 = .ok (.iload 7, 2) := by decide +kernel
theorem dX11_holdsLine_54 : decode cX11_holdsLine 54 = .ok (.bipush 12, 2) := by decide +kernel
theorem dX11_holdsLine_56 : decode cX11_holdsLine 56 = .ok (.if_icmp .gt 39, 3) := by decide +kernel
theorem dX11_holdsLine_59 : decode cX11_holdsLine 59 = .ok (.aload_n 0, 1) := by decide +kernel
theorem dX11_holdsLine_60 : decode cX11_holdsLine 60 = .ok (.getfield 36, 3) := by decide +kernel
theorem dX11_holdsLine_63 : decode cX11_holdsLine 63 = .ok (.iload 4, 2) := by decide +kernel
theorem dX11_holdsLine_65 : decode cX11_holdsLine 65 = .ok (.aload_n 0, 1) := by decide +kernel
theorem dX11_holdsLine_66 : decode cX11_holdsLine 66 = .ok (.iload 7, 2) := by decide +kernel
theorem dX11_holdsLine_68 : decode cX11_holdsLine 68 = .ok (.aload_n 0, 1) := by decide +kernel
theorem dX11_holdsLine_69 : decode cX11_holdsLine 69 = .ok (.getfield 13, 3) := by decide +kernel
theorem dX11_holdsLine_72 : decode cX11_holdsLine 72 = .ok (.sipush 542, 3) := by decide +kernel
theorem dX11_holdsLine_75 : decode cX11_holdsLine 75 = .ok (.iconst 2, 1) := by decide +kernel
theorem dX11_holdsLine_76 : decode cX11_holdsLine 76 = .ok (.iload 6, 2) := by decide +kernel
theorem dX11_holdsLine_78 : decode cX11_holdsLine 78 = .ok (.imul, 1) := by decide +kernel
theorem dX11_holdsLine_79 : decode cX11_holdsLine 79 = .ok (.iadd, 1) := by decide +kernel
theorem dX11_holdsLine_80 : decode cX11_holdsLine 80 = .ok (.iconst 1, 1) := by decide +kernel
theorem dX11_holdsLine_81 : decode cX11_holdsLine 81 = .ok (.iadd, 1) := by decide +kernel
theorem dX11_holdsLine_82 : decode cX11_holdsLine 82 = .ok (.iaload, 1) := by decide +kernel
theorem dX11_holdsLine_83 : decode cX11_holdsLine 83 = .ok (.iload_n 2, 1) := by decide +kernel
theorem dX11_holdsLine_84 : decode cX11_holdsLine 84 = .ok (.iload_n 3, 1) := by decide +kernel
theorem dX11_holdsLine_85 : decode cX11_holdsLine 85 = .ok (.invokevirtual 273, 3) := by decide +kernel
theorem dX11_holdsLine_88 : decode cX11_holdsLine 88 = .ok (.iastore, 1) := by decide +kernel
theorem dX11_holdsLine_89 : decode cX11_holdsLine 89 = .ok (.iinc 4 1, 3) := by decide +kernel
theorem dX11_holdsLine_92 : decode cX11_holdsLine 92 = .ok (.goto 173, 3) := by decide +kernel
theorem dX11_holdsLine_95 : decode cX11_holdsLine 95 = .ok (.iload 7, 2) := by decide +kernel
theorem dX11_holdsLine_97 : decode cX11_holdsLine 97 = .ok (.bipush 16, 2) := by decide +kernel
theorem dX11_holdsLine_99 : decode cX11_holdsLine 99 = .ok (.if_icmp .ne 26, 3) := by decide +kernel
theorem dX11_holdsLine_102 : decode cX11_holdsLine 102 = .ok (.aload_n 0, 1) := by decide +kernel
theorem dX11_holdsLine_103 : decode cX11_holdsLine 103 = .ok (.getfield 36, 3) := by decide +kernel
theorem dX11_holdsLine_106 : decode cX11_holdsLine 106 = .ok (.iload 4, 2) := by decide +kernel
theorem dX11_holdsLine_108 : decode cX11_holdsLine 108 = .ok (.iconst 1, 1) := by decide +kernel
theorem dX11_holdsLine_109 : decode cX11_holdsLine 109 = .ok (.isub, 1) := by decide +kernel
theorem dX11_holdsLine_110 : decode cX11_holdsLine 110 = .ok (.iconst 1, 1) := by decide +kernel
theorem dX11_holdsLine_111 : decode cX11_holdsLine 111 = .ok (.aload_n 0, 1) := by decide +kernel
theorem dX11_holdsLine_112 : decode cX11_holdsLine 112 = .ok (.getfield 36, 3) := by decide +kernel
theorem dX11_holdsLine_115 : decode cX11_holdsLine 115 = .ok (.iload 4, 2) := by decide +kernel
theorem dX11_holdsLine_117 : decode cX11_holdsLine 117 = .ok (.iconst 1, 1) := by decide +kernel
theorem dX11_holdsLine_118 : decode cX11_holdsLine 118 = .ok (.isub, 1) := by decide +kernel
theorem dX11_holdsLine_119 : decode cX11_holdsLine 119 = .ok (.iaload, 1) := by decide +kernel
theorem dX11_holdsLine_120 : decode cX11_holdsLine 120 = .ok (.isub, 1) := by decide +kernel
theorem dX11_holdsLine_121 : decode cX11_holdsLine 121 = .ok (.iastore, 1) := by decide +kernel
theorem dX11_holdsLine_122 : decode cX11_holdsLine 122 = .ok (.goto 143, 3) := by decide +kernel
theorem dX11_holdsLine_125 : decode cX11_holdsLine 125 = .ok (.iinc 4 (-1), 3) := by decide +kernel
theorem dX11_holdsLine_128 : decode cX11_holdsLine 128 = .ok (.aload_n 0, 1) := by decide +kernel
theorem dX11_holdsLine_129 : decode cX11_holdsLine 129 = .ok (.getfield 36, 3) := by decide +kernel
theorem dX11_holdsLine_132 : decode cX11_holdsLine 132 = .ok (.iload 4, 2) := by decide +kernel
theorem dX11_holdsLine_134 : decode cX11_holdsLine 134 = .ok (.iconst 1, 1) := by decide +kernel
theorem dX11_holdsLine_135 : decode cX11_holdsLine 135 = .ok (.isub, 1) := by decide +kernel
theorem dX11_holdsLine_136 : decode cX11_holdsLine 136 = .ok (.iaload, 1) := by decide +kernel
theorem dX11_holdsLine_137 : decode cX11_holdsLine 137 = .ok (.istore 8, 2) := by decide +kernel
theorem dX11_holdsLine_139 : decode cX11_holdsLine 139 = .ok (.aload_n 0, 1) := by decide +kernel
theorem dX11_holdsLine_140 : decode cX11_holdsLine 140 = .ok (.getfield 36, 3) := by decide +kernel
theorem dX11_holdsLine_143 : decode cX11_holdsLine 143 = .ok (.iload 4, 2) := by decide +kernel
theorem dX11_holdsLine_145 : decode cX11_holdsLine 145 = .ok (.iaload, 1) := by decide +kernel
theorem dX11_holdsLine_146 : decode cX11_holdsLine 146 = .ok (.istore 9, 2) := by decide +kernel
theorem dX11_holdsLine_148 : decode cX11_holdsLine 148 = .ok (.iload 7, 2) := by decide +kernel
theorem dX11_holdsLine_150 : decode cX11_holdsLine 150 = .ok (.bipush 14, 2) := by decide +kernel
theorem dX11_holdsLine_152 : decode cX11_holdsLine 152 = .ok (.if_icmp .ne 18, 3) := by decide +kernel
theorem dX11_holdsLine_155 : decode cX11_holdsLine 155 = .ok (.iload 8, 2) := by decide +kernel
theorem dX11_holdsLine_157 : decode cX11_holdsLine 157 = .ok (.iload 9, 2) := by decide +kernel
theorem dX11_holdsLine_159 : decode cX11_holdsLine 159 = .ok (.if_icmp .ge 7, 3) := by decide +kernel
theorem dX11_holdsLine_162 : decode cX11_holdsLine 162 = .ok (.iconst 1, 1) := by decide +kernel
theorem dX11_holdsLine_163 : decode cX11_holdsLine 163 = .ok (.goto 66, 3) := by decide +kernel
theorem dX11_holdsLine_166 : decode cX11_holdsLine 166 = .ok (.iconst 0, 1) := by decide +kernel
theorem dX11_holdsLine_167 : decode cX11_holdsLine 167 = .ok (.goto 62, 3) := by decide +kernel
theorem dX11_holdsLine_170 : decode cX11_holdsLine 170 = .ok (.iload 7, 2) := by decide +kernel
theorem dX11_holdsLine_172 : decode cX11_holdsLine 172 = .ok (.bipush 15, 2) := by decide +kernel
theorem dX11_holdsLine_174 : decode cX11_holdsLine 174 = .ok (.if_icmp .ne 18, 3) := by decide +kernel
theorem dX11_holdsLine_177 : decode cX11_holdsLine 177 = .ok (.iload 8, 2) := by decide +kernel
theorem dX11_holdsLine_179 : decode cX11_holdsLine 179 = .ok (.iload 9, 2) := by decide +kernel
theorem dX11_holdsLine_181 : decode cX11_holdsLine 181 = .ok (.if_icmp .le 7, 3) := by decide +kernel
theorem dX11_holdsLine_184 : decode cX11_holdsLine 184 = .ok (.iconst 1, 1) := by decide +kernel
theorem dX11_holdsLine_185 : decode cX11_holdsLine 185 = .ok (.goto 44, 3) := by decide +kernel
theorem dX11_holdsLine_188 : decode cX11_holdsLine 188 = .ok (.iconst 0, 1) := by decide +kernel
theorem dX11_holdsLine_189 : decode cX11_holdsLine 189 = .ok (.goto 40, 3) := by decide +kernel
theorem dX11_holdsLine_192 : decode cX11_holdsLine 192 = .ok (.iload 7, 2) := by decide +kernel
theorem dX11_holdsLine_194 : decode cX11_holdsLine 194 = .ok (.bipush 17, 2) := by decide +kernel
theorem dX11_holdsLine_196 : decode cX11_holdsLine 196 = .ok (.if_icmp .ne 20, 3) := by decide +kernel
theorem dX11_holdsLine_199 : decode cX11_holdsLine 199 = .ok (.iload 8, 2) := by decide +kernel
theorem dX11_holdsLine_201 : decode cX11_holdsLine 201 = .ok (.iload 9, 2) := by decide +kernel
theorem dX11_holdsLine_203 : decode cX11_holdsLine 203 = .ok (.iadd, 1) := by decide +kernel
theorem dX11_holdsLine_204 : decode cX11_holdsLine 204 = .ok (.iconst 2, 1) := by decide +kernel
theorem dX11_holdsLine_205 : decode cX11_holdsLine 205 = .ok (.if_icmp .ne 7, 3) := by decide +kernel
theorem dX11_holdsLine_208 : decode cX11_holdsLine 208 = .ok (.iconst 1, 1) := by decide +kernel
theorem dX11_holdsLine_209 : decode cX11_holdsLine 209 = .ok (.goto 20, 3) := by decide +kernel
theorem dX11_holdsLine_212 : decode cX11_holdsLine 212 = .ok (.iconst 0, 1) := by decide +kernel
theorem dX11_holdsLine_213 : decode cX11_holdsLine 213 = .ok (.goto 16, 3) := by decide +kernel
theorem dX11_holdsLine_216 : decode cX11_holdsLine 216 = .ok (.iload 8, 2) := by decide +kernel
theorem dX11_holdsLine_218 : decode cX11_holdsLine 218 = .ok (.iload 9, 2) := by decide +kernel
theorem dX11_holdsLine_220 : decode cX11_holdsLine 220 = .ok (.iadd, 1) := by decide +kernel
theorem dX11_holdsLine_221 : decode cX11_holdsLine 221 = .ok (.ifCond .le 7, 3) := by decide +kernel
theorem dX11_holdsLine_224 : decode cX11_holdsLine 224 = .ok (.iconst 1, 1) := by decide +kernel
theorem dX11_holdsLine_225 : decode cX11_holdsLine 225 = .ok (.goto 4, 3) := by decide +kernel
theorem dX11_holdsLine_228 : decode cX11_holdsLine 228 = .ok (.iconst 0, 1) := by decide +kernel
theorem dX11_holdsLine_229 : decode cX11_holdsLine 229 = .ok (.istore 10, 2) := by decide +kernel
theorem dX11_holdsLine_231 : decode cX11_holdsLine 231 = .ok (.aload_n 0, 1) := by decide +kernel
theorem dX11_holdsLine_232 : decode cX11_holdsLine 232 = .ok (.getfield 36, 3) := by decide +kernel
theorem dX11_holdsLine_235 : decode cX11_holdsLine 235 = .ok (.iload 4, 2) := by decide +kernel
theorem dX11_holdsLine_237 : decode cX11_holdsLine 237 = .ok (.iconst 1, 1) := by decide +kernel
theorem dX11_holdsLine_238 : decode cX11_holdsLine 238 = .ok (.isub, 1) := by decide +kernel
theorem dX11_holdsLine_239 : decode cX11_holdsLine 239 = .ok (.iload 7, 2) := by decide +kernel
theorem dX11_holdsLine_241 : decode cX11_holdsLine 241 = .ok (.bipush 13, 2) := by decide +kernel
theorem dX11_holdsLine_243 : decode cX11_holdsLine 243 = .ok (.if_icmp .ne 11, 3) := by decide +kernel
theorem dX11_holdsLine_246 : decode cX11_holdsLine 246 = .ok (.iload 8, 2) := by decide +kernel
theorem dX11_holdsLine_248 : decode cX11_holdsLine 248 = .ok (.iload 9, 2) := by decide +kernel
theorem dX11_holdsLine_250 : decode cX11_holdsLine 250 = .ok (.iadd, 1) := by decide +kernel
theorem dX11_holdsLine_251 : decode cX11_holdsLine 251 = .ok (.goto 13, 3) := by decide +kernel
theorem dX11_holdsLine_254 : decode cX11_holdsLine 254 = .ok (.iload 10, 2) := by decide +kernel
theorem dX11_holdsLine_256 : decode cX11_holdsLine 256 = .ok (.ifCond .eq 7, 3) := by decide +kernel
theorem dX11_holdsLine_259 : decode cX11_holdsLine 259 = .ok (.iconst 1, 1) := by decide +kernel
theorem dX11_holdsLine_260 : decode cX11_holdsLine 260 = .ok (.goto 4, 3) := by decide +kernel
theorem dX11_holdsLine_263 : decode cX11_holdsLine 263 = .ok (.iconst 0, 1) := by decide +kernel
theorem dX11_holdsLine_264 : decode cX11_holdsLine 264 = .ok (.iastore, 1) := by decide +kernel
theorem dX11_holdsLine_265 : decode cX11_holdsLine 265 = .ok (.iinc 6 1, 3) := by decide +kernel
theorem dX11_holdsLine_268 : decode cX11_holdsLine 268 = .ok (.goto (-245), 3) := by decide +kernel
theorem dX11_holdsLine_271 : decode cX11_holdsLine 271 = .ok (.iload 4, 2) := by decide +kernel
theorem dX11_holdsLine_273 : decode cX11_holdsLine 273 = .ok (.ifCond .eq 13, 3) := by decide +kernel
theorem dX11_holdsLine_276 : decode cX11_holdsLine 276 = .ok (.aload_n 0, 1) := by decide +kernel
theorem dX11_holdsLine_277 : decode cX11_holdsLine 277 = .ok (.getfield 36, 3) := by decide +kernel
theorem dX11_holdsLine_280 : decode cX11_holdsLine 280 = .ok (.iconst 0, 1) := by decide +kernel
theorem dX11_holdsLine_281 : decode cX11_holdsLine 281 = .ok (.iaload, 1) := by decide +kernel
theorem dX11_holdsLine_282 : decode cX11_holdsLine 282 = .ok (.iconst 1, 1) := by decide +kernel
theorem dX11_holdsLine_283 : decode cX11_holdsLine 283 = .ok (.if_icmp .ne 7, 3) := by decide +kernel
theorem dX11_holdsLine_286 : decode cX11_holdsLine 286 = .ok (.iconst 1, 1) := by decide +kernel
theorem dX11_holdsLine_287 : decode cX11_holdsLine 287 = .ok (.goto 4, 3) := by decide +kernel
theorem dX11_holdsLine_290 : decode cX11_holdsLine 290 = .ok (.iconst 0, 1) := by decide +kernel
theorem dX11_holdsLine_291 : decode cX11_holdsLine 291 = .ok (.ireturn, 1) := by decide +kernel
set_option maxHeartbeats 4000000 in
set_option maxRecDepth 100000 in
/-- reference: holdsLine -/
theorem r_holdsLine (l : Launch) (D : va_G) (cI cJ cB cC : ClassId) (h : Nat) (th : Int32) (aw : Nat) (ai : Nat) (ab : Nat) (ac : Nat) (hi : Int32) (re : Int32) (aP : Nat) (ta : Int32) (po : Int32) (en : Int32) (be : Int32) (de : Int32) (fa : Int32) (a5 : Nat) (sp : Int32) (av : Nat) (an : Nat) (ak : Nat) (ne : Int32) (aW : Nat) (aC : Nat) (ag : Nat) (aT : Nat) (aN : Nat) (aF : Nat) (fw : Nat → Int32) (fv : Nat → Int32) (line : Int32) (mm : Int32) (b : Int32) (sz : Nat) (H_mm : Rg mm 0 9) (H_b : Rg b 0 11) (H_line : Rg line 0 11) (H_fw_W : wW fw) (H_fw_L : wL fw) (H_LN : (line : Int32).toInt < (fw 505).toInt) : Met l yX11_holdsLine kwX11_holdsLine ({ frames := 4, cells := 0, slots := 0, locals := 90 } : Room) (kPre D (kT cI cJ cB cC) sz [(h, oX11 th aw ai ab ac hi re aP ta po en be de fa a5 sp av an ak ne aW aC ag aT aN aF), (aw, .inl (cI, 2179, .inl fw)), (av, .inl (cI, 400, .inl fv))] [.ref h, .int line, .int mm, .int b]) (va_Qi (fun (r : Int32) (f0_ : (Nat → Int32)) => Rg r 0 1) (fun (f0_ : (Nat → Int32)) (t : State) => kB D (kT cI cJ cB cC) (va_A [(h, oX11 th aw ai ab ac hi re aP ta po en be de fa a5 sp av an ak ne aW aC ag aT aN aF), (aw, .inl (cI, 2179, .inl fw)), (av, .inl (cI, 400, .inl fv))] sz) [(h, oX11 th aw ai ab ac hi re aP ta po en be de fa a5 sp av an ak ne aW aC ag aT aN aF), (aw, .inl (cI, 2179, .inl fw)), (av, .inl (cI, 400, .inl f0_))] t) (va_A [(h, oX11 th aw ai ab ac hi re aP ta po en be de fa a5 sp av an ak ne aW aC ag aT aN aF), (aw, .inl (cI, 2179, .inl fw)), (av, .inl (cI, 400, .inl fv))] sz)) 0 0 (va_A [(h, oX11 th aw ai ab ac hi re aP ta po en be de fa a5 sp av an ak ne aW aC ag aT aN aF), (aw, .inl (cI, 2179, .inl fw)), (av, .inl (cI, 400, .inl fv))] sz) := by
  refine Met.ofW (cc := cX11_holdsLine) (maxL := 11) (ret := (some .boolean)) (by decide) rfl ?_
  intro p e s m args below meth c s₁ B hml hv
  obtain ⟨rfl, hsz, hN, hE, hP, hK, hD0⟩ := hv
  have hx := B.exec
  have hb := B.bytes
  have hr := B.returns
  have hts := fun (w : Cond) (h : w ∈ kG) => atoms_spec (ws := kwX11_holdsLine) B.pre w (List.mem_cons_of_mem _ h)
  have hown : s.vm.findClass RX11 = some m.cls := findClass_of_methodNamed B.named
  subst hsz
  have hD := hD0.self (sz := s.heap.size)
  generalize hAe : va_A [(h, oX11 th aw ai ab ac hi re aP ta po en be de fa a5 sp av an ak ne aW aC ag aT aN aF), (aw, .inl (cI, 2179, .inl fw)), (av, .inl (cI, 400, .inl fv))] s.heap.size = A at hD hE ⊢
  have hA : ∀ q : Nat, s.heap.size ≤ q → A q := fun q h => by rw [← hAe]; exact Or.inr h
  have hl := lv_entry ([.ref h, .int line, .int mm, .int b]) (n := 11) (Nat.le_of_ble_eq_true rfl)
  rw [lg_entry_eq]
  generalize (lg_sl ([.ref h, .int line, .int mm, .int b]) ++ List.replicate (11 - (lg_sl ([.ref h, .int line, .int mm, .int b])).length) Slot.unset).toArray = ls at hl ⊢
  have hl : lv_has ls 11 [(0, .ref h), (1, .int line), (2, .int mm), (3, .int b)] := hl
  obtain ⟨H, hH0⟩ : ∃ H, H = s.heap := ⟨_, rfl⟩
  have hS : va_S A s.heap H [] := by rw [hH0]; exact va_S.rf
  have hP : va_P D vwCl [(h, oX11 th aw ai ab ac hi re aP ta po en be de fa a5 sp av an ak ne aW aC ag aT aN aF), (aw, .inl (cI, 2179, .inl fw)), (av, .inl (cI, 400, .inl fv))] H := by rw [hH0]; exact hP
  refine kHeap hH0 ?_
  clear hH0
  obtain ⟨_, a9, b9, hA9, hB9, hab9, hb9, hr9⟩ := (H_fw_L : wL fw).2 (cN line) (by have q1 := H_line; have q2 := H_LN; unfold Rg at q1; simp only [cN]; omega)
  refine lv_iconst (v := 0) hx hb dX11_holdsLine_0 (by decide) ?_
  refine lv_istore (lv' := [(4, .int 0), (0, .ref h), (1, .int line), (2, .int mm), (3, .int b)]) hx hb dX11_holdsLine_1 hl (by decide) rfl (fun ls hl => ?_)
  refine lv_sipush (v := 506) hx hb dX11_holdsLine_3 (by decide) ?_
  refine lv_iconst (v := 3) hx hb dX11_holdsLine_6 (by decide) ?_
  refine lv_iload_n hx hb dX11_holdsLine_7 rfl (lv_at hl 2 rfl) ?_
  refine lv_imul hx hb dX11_holdsLine_8 ?_
  refine lv_topi (fun x1 ex1 => ?_)
  have tx1 : x1.toInt = 3 * line.toInt := ti_mul ex1 (rg_lit (n := 3) (by decide)) H_line (by decide) (by decide) rfl
  have k2 : Rg x1 0 33 := rg_mul ex1 (rg_lit (n := 3) (by decide)) H_line (by decide)
  refine lv_iadd hx hb dX11_holdsLine_9 ?_
  refine lv_topi (fun x3 ex3 => ?_)
  have tx3 : x3.toInt = 506 + x1.toInt := ti_add ex3 (rg_lit (n := 506) (by decide)) k2 (by decide) (by decide) rfl
  have k4 : Rg x3 506 539 := rg_add ex3 (rg_lit (n := 506) (by decide)) k2 (by decide)
  refine lv_istore (lv' := [(5, .int x3), (4, .int 0), (0, .ref h), (1, .int line), (2, .int mm), (3, .int b)]) hx hb dX11_holdsLine_10 hl (by decide) rfl (fun ls hl => ?_)
  refine lv_aload_n hx hb dX11_holdsLine_12 rfl (lv_at hl 2 rfl) ?_
  refine va_get (D := D) (ci := 10) (v := .ref aw) (C := RX11) (T := TX11) (N := 26) hx hb hts iG_X11 hown hK hP 0 rfl rfl 1 (by decide) (hts _ w5_3) (fun _ h9 => h9) rfl dX11_holdsLine_13 ?_
  refine lv_iload hx hb dX11_holdsLine_16 (lv_at hl 0 rfl) ?_
  refine lv_iconst (v := 1) hx hb dX11_holdsLine_18 (by decide) ?_
  refine lv_iadd hx hb dX11_holdsLine_19 ?_
  refine lv_topi (fun x5 ex5 => ?_)
  have tx5 : x5.toInt = x3.toInt + 1 := ti_add ex5 k4 (rg_lit (n := 1) (by decide)) (by decide) rfl (by decide)
  have k6 : Rg x5 507 540 := rg_add ex5 k4 (rg_lit (n := 1) (by decide)) (by decide)
  refine va_iald hx hb hK hP 1 0 rfl rfl (rg_in k6 (by decide)) dX11_holdsLine_20 ?_
  refine lv_topi (fun x7 ex7 => ?_)
  have vx7 : x7.toInt = (a9 : Int) := by rw [ex7, cl_of (k := 507 + 3 * cN line) k6 (by decide) (by simp only [cN]; have q8 := k6; have q9 := H_line; unfold Rg at *; omega)]; exact hA9
  have k8 : Rg x7 0 400 := (by have q1 := vx7; exact ⟨by omega, by omega⟩)
  refine lv_istore (lv' := [(6, .int x7), (5, .int x3), (4, .int 0), (0, .ref h), (1, .int line), (2, .int mm), (3, .int b)]) hx hb dX11_holdsLine_21 hl (by decide) rfl (fun ls hl => ?_)
  refine k_loop (hd := 23) (fun (u : Int32 × Int32 × (Nat → Int32)) => match u with | (y381, y382, g383) => (400 - (y381).toInt).toNat) (fun (u : Int32 × Int32 × (Nat → Int32)) (H : Heap) (locs : List Loc) (ls : Array Slot) => match u with | (y381, y382, g383) => (∃ i9 : Nat, (y381 : Int32).toInt = (i9 : Int) ∧ i9 ≤ b9 ∧ rpn fw i9 (b9 - i9) (cN y382) ∧ 0 ≤ (y382 : Int32).toInt) ∧ Rg y381 0 400 ∧ Rg y382 0 400 ∧ va_P D vwCl [(h, oX11 th aw ai ab ac hi re aP ta po en be de fa a5 sp av an ak ne aW aC ag aT aN aF), (aw, .inl (cI, 2179, .inl fw)), (av, .inl (cI, 400, .inl g383))] H ∧ va_D A [(h, oX11 th aw ai ab ac hi re aP ta po en be de fa a5 sp av an ak ne aW aC ag aT aN aF), (aw, .inl (cI, 2179, .inl fw)), (av, .inl (cI, 400, .inl g383))] ∧ va_S A s.heap H locs ∧ lv_has ls 11 [(6, .int y381), (5, .int x3), (4, .int y382), (0, .ref h), (1, .int line), (2, .int mm), (3, .int b)]) (x7, (0 : Int32), fv) ⟨⟨a9, vx7, hab9, (by have q0 : cN (0 : Int32) = 0 := (by decide); rw [q0]; exact hr9), (by decide)⟩, k8, (rg_w (rg_lit (n := 0) (by decide)) (by decide)), hP.sub (ws' := [(h, oX11 th aw ai ab ac hi re aP ta po en be de fa a5 sp av an ak ne aW aC ag aT aN aF), (aw, .inl (cI, 2179, .inl fw)), (av, .inl (cI, 400, .inl fv))]) [0, 1, 2] rfl, hD.sub (ws' := [(h, oX11 th aw ai ab ac hi re aP ta po en be de fa a5 sp av an ak ne aW aC ag aT aN aF), (aw, .inl (cI, 2179, .inl fw)), (av, .inl (cI, 400, .inl fv))]) [0, 1, 2] (by decide) rfl, hS, lv_sub (l' := [(6, .int x7), (5, .int x3), (4, .int 0), (0, .ref h), (1, .int line), (2, .int mm), (3, .int b)]) hl [0, 1, 2, 3, 4, 5, 6] rfl⟩ (fun u H locs ls hI ih384 => ?_)
  clear hP hD hS hl
  obtain ⟨y381, y382, g383⟩ := u
  obtain ⟨hX23_0, hy381, hy382, hP, hD, hS, hl⟩ := hI
  have hP : va_P D vwCl [(h, oX11 th aw ai ab ac hi re aP ta po en be de fa a5 sp av an ak ne aW aC ag aT aN aF), (aw, .inl (cI, 2179, .inl fw)), (av, .inl (cI, 400, .inl g383))] H := hP
  have hD : va_D A [(h, oX11 th aw ai ab ac hi re aP ta po en be de fa a5 sp av an ak ne aW aC ag aT aN aF), (aw, .inl (cI, 2179, .inl fw)), (av, .inl (cI, 400, .inl g383))] := hD
  have hl : lv_has ls 11 [(6, .int y381), (5, .int x3), (4, .int y382), (0, .ref h), (1, .int line), (2, .int mm), (3, .int b)] := hl
  obtain ⟨i9, hI9, hib9, hrp9, hT0⟩ := hX23_0
  refine lv_iload hx hb dX11_holdsLine_23 (lv_at hl 0 rfl) ?_
  refine lv_aload_n hx hb dX11_holdsLine_25 rfl (lv_at hl 3 rfl) ?_
  refine va_get (D := D) (ci := 10) (v := .ref aw) (C := RX11) (T := TX11) (N := 26) hx hb hts iG_X11 hown hK hP 0 rfl rfl 1 (by decide) (hts _ w5_3) (fun _ h9 => h9) rfl dX11_holdsLine_26 ?_
  refine lv_iload hx hb dX11_holdsLine_29 (lv_at hl 1 rfl) ?_
  refine lv_iconst (v := 2) hx hb dX11_holdsLine_31 (by decide) ?_
  refine lv_iadd hx hb dX11_holdsLine_32 ?_
  refine lv_topi (fun x385 ex385 => ?_)
  have tx385 : x385.toInt = x3.toInt + 2 := ti_add ex385 k4 (rg_lit (n := 2) (by decide)) (by decide) rfl (by decide)
  have k386 : Rg x385 508 541 := rg_add ex385 k4 (rg_lit (n := 2) (by decide)) (by decide)
  refine va_iald hx hb hK hP 1 0 rfl rfl (rg_in k386 (by decide)) dX11_holdsLine_33 ?_
  refine lv_topi (fun x387 ex387 => ?_)
  have vx387 : x387.toInt = (b9 : Int) := by rw [ex387, cl_of (k := 508 + 3 * cN line) k386 (by decide) (by simp only [cN]; have q8 := k386; have q9 := H_line; unfold Rg at *; omega)]; exact hB9
  have k388 : Rg x387 0 400 := (by have q1 := vx387; exact ⟨by omega, by omega⟩)
  refine lv_icmp_ge (tgt := 271) hx hb dX11_holdsLine_34 (by decide) (fun c389 => ?_) (fun c389 => ?_)
  · skip
    refine lv_iload hx hb dX11_holdsLine_271 (lv_at hl 2 rfl) ?_
    refine k_join (hd := 286) (cells2 := 0) (slots2 := 0) (fun (_ : Unit) => []) (fun (_ : Unit) (H : Heap) (locs : List Loc) (ls : Array Slot) => va_P D vwCl [(h, oX11 th aw ai ab ac hi re aP ta po en be de fa a5 sp av an ak ne aW aC ag aT aN aF), (aw, .inl (cI, 2179, .inl fw)), (av, .inl (cI, 400, .inl g383))] H ∧ va_D A [(h, oX11 th aw ai ab ac hi re aP ta po en be de fa a5 sp av an ak ne aW aC ag aT aN aF), (aw, .inl (cI, 2179, .inl fw)), (av, .inl (cI, 400, .inl g383))] ∧ va_S A s.heap H locs ∧ lv_has ls 11 [(6, .int y381), (5, .int x3), (4, .int y382), (0, .ref h), (1, .int line), (2, .int mm), (3, .int b)]) (fun u H locs ls hI => ?_) (fun hJ286 => ?_)
    · skip
      clear hP hD hS hl
      obtain ⟨hP, hD, hS, hl⟩ := hI
      have hP : va_P D vwCl [(h, oX11 th aw ai ab ac hi re aP ta po en be de fa a5 sp av an ak ne aW aC ag aT aN aF), (aw, .inl (cI, 2179, .inl fw)), (av, .inl (cI, 400, .inl g383))] H := hP
      have hD : va_D A [(h, oX11 th aw ai ab ac hi re aP ta po en be de fa a5 sp av an ak ne aW aC ag aT aN aF), (aw, .inl (cI, 2179, .inl fw)), (av, .inl (cI, 400, .inl g383))] := hD
      have hl : lv_has ls 11 [(6, .int y381), (5, .int x3), (4, .int y382), (0, .ref h), (1, .int line), (2, .int mm), (3, .int b)] := hl
      refine lv_iconst (v := 1) hx hb dX11_holdsLine_286 (by decide) ?_
      refine lv_goto (tgt := 291) hx hb dX11_holdsLine_287 (by decide) ?_
      have hP9 := hP.sub (ws' := [(h, oX11 th aw ai ab ac hi re aP ta po en be de fa a5 sp av an ak ne aW aC ag aT aN aF), (aw, .inl (cI, 2179, .inl fw)), (av, .inl (cI, 400, .inl g383))]) [0, 1, 2] rfl
      have hD9 := hD.sub (ws' := [(h, oX11 th aw ai ab ac hi re aP ta po en be de fa a5 sp av an ak ne aW aC ag aT aN aF), (aw, .inl (cI, 2179, .inl fw)), (av, .inl (cI, 400, .inl g383))]) [0, 1, 2] (by decide) rfl
      exact W.zret (v := 1) hx hb hr (by decide) (fun t ht hW => ⟨⟨1, (g383), rfl, (rg_w (rg_lit (n := 1) (by decide)) (by decide)), by rw [ht]; exact hP9, va_K.moved hW.alike hK, hD9⟩, hS.F ht⟩) hS.2.2 dX11_holdsLine_291
    refine lv_if_eq (tgt := 286) hx hb dX11_holdsLine_273 (by decide) (fun c396 => ?_) (fun c396 => ?_)
    · skip
      have k397 : Rg y382 0 0 := rg_q1 (eqI c396) hy382 (rg_lit (n := 0) (by decide)) (by decide)
      exact hJ286 () _ _ _ ⟨hP.sub (ws' := [(h, oX11 th aw ai ab ac hi re aP ta po en be de fa a5 sp av an ak ne aW aC ag aT aN aF), (aw, .inl (cI, 2179, .inl fw)), (av, .inl (cI, 400, .inl g383))]) [0, 1, 2] rfl, hD.sub (ws' := [(h, oX11 th aw ai ab ac hi re aP ta po en be de fa a5 sp av an ak ne aW aC ag aT aN aF), (aw, .inl (cI, 2179, .inl fw)), (av, .inl (cI, 400, .inl g383))]) [0, 1, 2] (by decide) rfl, hS, lv_sub (l' := [(6, .int y381), (5, .int x3), (4, .int y382), (0, .ref h), (1, .int line), (2, .int mm), (3, .int b)]) hl [0, 1, 2, 3, 4, 5, 6] rfl⟩
    · skip
      have k398 : Rg y382 1 400 := rg_n1 (neI c396) hy382 (rg_lit (n := 0) (by decide)) (by decide)
      refine lv_aload_n hx hb dX11_holdsLine_276 rfl (lv_at hl 3 rfl) ?_
      refine va_get (D := D) (ci := 10) (v := .ref av) (C := RX11) (T := TX11) (N := 26) hx hb hts iG_X11 hown hK hP 0 rfl rfl 16 (by decide) (hts _ w5_11) (fun _ h9 => h9) rfl dX11_holdsLine_277 ?_
      refine lv_iconst (v := 0) hx hb dX11_holdsLine_280 (by decide) ?_
      refine va_iald hx hb hK hP 2 0 rfl rfl (rg_in (rg_lit (n := 0) (by decide)) (by decide)) dX11_holdsLine_281 ?_
      refine lv_topi (fun x399 ex399 => ?_)
      refine lv_iconst (v := 1) hx hb dX11_holdsLine_282 (by decide) ?_
      refine lv_icmp_ne (tgt := 290) hx hb dX11_holdsLine_283 (by decide) (fun c400 => ?_) (fun c400 => ?_)
      · skip
        refine lv_iconst (v := 0) hx hb dX11_holdsLine_290 (by decide) ?_
        have hP9 := hP.sub (ws' := [(h, oX11 th aw ai ab ac hi re aP ta po en be de fa a5 sp av an ak ne aW aC ag aT aN aF), (aw, .inl (cI, 2179, .inl fw)), (av, .inl (cI, 400, .inl g383))]) [0, 1, 2] rfl
        have hD9 := hD.sub (ws' := [(h, oX11 th aw ai ab ac hi re aP ta po en be de fa a5 sp av an ak ne aW aC ag aT aN aF), (aw, .inl (cI, 2179, .inl fw)), (av, .inl (cI, 400, .inl g383))]) [0, 1, 2] (by decide) rfl
        exact W.zret (v := 0) hx hb hr (by decide) (fun t ht hW => ⟨⟨0, (g383), rfl, (rg_w (rg_lit (n := 0) (by decide)) (by decide)), by rw [ht]; exact hP9, va_K.moved hW.alike hK, hD9⟩, hS.F ht⟩) hS.2.2 dX11_holdsLine_291
      · skip
        have k401 : Rg x399 1 1 := rg_q1 (eqI c400) (rg_any x399) (rg_lit (n := 1) (by decide)) (by decide)
        exact hJ286 () _ _ _ ⟨hP.sub (ws' := [(h, oX11 th aw ai ab ac hi re aP ta po en be de fa a5 sp av an ak ne aW aC ag aT aN aF), (aw, .inl (cI, 2179, .inl fw)), (av, .inl (cI, 400, .inl g383))]) [0, 1, 2] rfl, hD.sub (ws' := [(h, oX11 th aw ai ab ac hi re aP ta po en be de fa a5 sp av an ak ne aW aC ag aT aN aF), (aw, .inl (cI, 2179, .inl fw)), (av, .inl (cI, 400, .inl g383))]) [0, 1, 2] (by decide) rfl, hS, lv_sub (l' := [(6, .int y381), (5, .int x3), (4, .int y382), (0, .ref h), (1, .int line), (2, .int mm), (3, .int b)]) hl [0, 1, 2, 3, 4, 5, 6] rfl⟩
  · skip
    have k402 : Rg y381 0 399 := rg_l1 (nleI c389) hy381 k388 (by decide)
    have k403 : Rg x387 1 400 := rg_l2 (nleI c389) hy381 k388 (by decide)
    obtain ⟨n9, hn9⟩ : ∃ n : Nat, b9 - i9 = n + 1 := ⟨b9 - i9 - 1, by have q1 := hI9; have q2 := vx387; have q3 := (nleI c389); omega⟩
    rw [hn9] at hrp9
    obtain ⟨hc9, hp9, hm9, hk9⟩ := hrp9
    refine lv_aload_n hx hb dX11_holdsLine_37 rfl (lv_at hl 3 rfl) ?_
    refine va_get (D := D) (ci := 10) (v := .ref aw) (C := RX11) (T := TX11) (N := 26) hx hb hts iG_X11 hown hK hP 0 rfl rfl 1 (by decide) (hts _ w5_3) (fun _ h9 => h9) rfl dX11_holdsLine_38 ?_
    refine lv_sipush (v := 542) hx hb dX11_holdsLine_41 (by decide) ?_
    refine lv_iconst (v := 2) hx hb dX11_holdsLine_44 (by decide) ?_
    refine lv_iload hx hb dX11_holdsLine_45 (lv_at hl 0 rfl) ?_
    refine lv_imul hx hb dX11_holdsLine_47 ?_
    refine lv_topi (fun x404 ex404 => ?_)
    have tx404 : x404.toInt = 2 * y381.toInt := ti_mul ex404 (rg_lit (n := 2) (by decide)) k402 (by decide) (by decide) rfl
    have k405 : Rg x404 0 798 := rg_mul ex404 (rg_lit (n := 2) (by decide)) k402 (by decide)
    refine lv_iadd hx hb dX11_holdsLine_48 ?_
    refine lv_topi (fun x406 ex406 => ?_)
    have tx406 : x406.toInt = 542 + x404.toInt := ti_add ex406 (rg_lit (n := 542) (by decide)) k405 (by decide) (by decide) rfl
    have k407 : Rg x406 542 1340 := rg_add ex406 (rg_lit (n := 542) (by decide)) k405 (by decide)
    refine va_iald hx hb hK hP 1 0 rfl rfl (rg_in k407 (by decide)) dX11_holdsLine_49 ?_
    refine lv_topi (fun x408 ex408 => ?_)
    have hz9 : x408 = fw (542 + 2 * i9) := by rw [ex408, cl_of (k := 542 + 2 * i9) k407 (by decide) (by have q8 := k407; have q7 := hI9; unfold Rg at *; omega)]
    have k409 : Rg x408 0 18 := (by rw [hz9]; exact hc9)
    refine lv_istore (lv' := [(7, .int x408), (6, .int y381), (5, .int x3), (4, .int y382), (0, .ref h), (1, .int line), (2, .int mm), (3, .int b)]) hx hb dX11_holdsLine_50 hl (by decide) rfl (fun ls hl => ?_)
    refine lv_iload hx hb dX11_holdsLine_52 (lv_at hl 0 rfl) ?_
    refine lv_bipush (v := 12) hx hb dX11_holdsLine_54 (by decide) ?_
    refine lv_icmp_gt (tgt := 95) hx hb dX11_holdsLine_56 (by decide) (fun c474 => ?_) (fun c474 => ?_)
    · skip
      have k475 : Rg x408 13 18 := rg_l2 (ltI c474) (rg_lit (n := 12) (by decide)) k409 (by decide)
      refine lv_iload hx hb dX11_holdsLine_95 (lv_at hl 0 rfl) ?_
      refine lv_bipush (v := 16) hx hb dX11_holdsLine_97 (by decide) ?_
      refine lv_icmp_ne (tgt := 125) hx hb dX11_holdsLine_99 (by decide) (fun c476 => ?_) (fun c476 => ?_)
      · skip
        obtain ⟨hd9, hq9⟩ := hk9 (by rw [← hz9]; have q1 := (ltI c474); have q2 : (12 : Int32).toInt = 12 := (by decide); omega) (by rw [← hz9]; have q1 := neI c476; have q4 : (16 : Int32).toInt = 16 := (by decide); intro q5; omega)
        have k477 : Rg y382 2 400 := (by have q1 := hd9; have q2 := hy382; simp only [cN] at q1; unfold Rg at q2; exact ⟨by omega, by omega⟩)
        obtain ⟨x478, ex478⟩ : ∃ y : Int32, y = y382 + (-1) := ⟨_, rfl⟩
        refine lv_iinc (v := x478) (lv' := [(4, .int x478), (7, .int x408), (6, .int y381), (5, .int x3), (0, .ref h), (1, .int line), (2, .int mm), (3, .int b)]) hx hb dX11_holdsLine_125 hl (k := 3) rfl (by rw [ex478]; rfl) (by decide) rfl (fun ls hl => ?_)
        have k479 : Rg x478 1 399 := rg_add ex478 k477 (rg_lit (n := -1) (by decide)) (by decide)
        refine lv_aload_n hx hb dX11_holdsLine_128 rfl (lv_at hl 4 rfl) ?_
        refine va_get (D := D) (ci := 10) (v := .ref av) (C := RX11) (T := TX11) (N := 26) hx hb hts iG_X11 hown hK hP 0 rfl rfl 16 (by decide) (hts _ w5_11) (fun _ h9 => h9) rfl dX11_holdsLine_129 ?_
        refine lv_iload hx hb dX11_holdsLine_132 (lv_at hl 0 rfl) ?_
        refine lv_iconst (v := 1) hx hb dX11_holdsLine_134 (by decide) ?_
        refine lv_isub hx hb dX11_holdsLine_135 ?_
        refine lv_topi (fun x480 ex480 => ?_)
        have tx480 : x480.toInt = x478.toInt - 1 := ti_sub ex480 k479 (rg_lit (n := 1) (by decide)) (by decide) rfl (by decide)
        have k481 : Rg x480 0 398 := rg_sub ex480 k479 (rg_lit (n := 1) (by decide)) (by decide)
        refine va_iald hx hb hK hP 2 0 rfl rfl (rg_in k481 (by decide)) dX11_holdsLine_136 ?_
        refine lv_topi (fun x482 ex482 => ?_)
        refine lv_istore (lv' := [(8, .int x482), (4, .int x478), (7, .int x408), (6, .int y381), (5, .int x3), (0, .ref h), (1, .int line), (2, .int mm), (3, .int b)]) hx hb dX11_holdsLine_137 hl (by decide) rfl (fun ls hl => ?_)
        refine lv_aload_n hx hb dX11_holdsLine_139 rfl (lv_at hl 5 rfl) ?_
        refine va_get (D := D) (ci := 10) (v := .ref av) (C := RX11) (T := TX11) (N := 26) hx hb hts iG_X11 hown hK hP 0 rfl rfl 16 (by decide) (hts _ w5_11) (fun _ h9 => h9) rfl dX11_holdsLine_140 ?_
        refine lv_iload hx hb dX11_holdsLine_143 (lv_at hl 1 rfl) ?_
        refine va_iald hx hb hK hP 2 0 rfl rfl (rg_in k479 (by decide)) dX11_holdsLine_145 ?_
        refine lv_topi (fun x483 ex483 => ?_)
        refine lv_istore (lv' := [(9, .int x483), (8, .int x482), (4, .int x478), (7, .int x408), (6, .int y381), (5, .int x3), (0, .ref h), (1, .int line), (2, .int mm), (3, .int b)]) hx hb dX11_holdsLine_146 hl (by decide) rfl (fun ls hl => ?_)
        refine lv_iload hx hb dX11_holdsLine_148 (lv_at hl 3 rfl) ?_
        refine lv_bipush (v := 14) hx hb dX11_holdsLine_150 (by decide) ?_
        refine k_join (hd := 229) (cells2 := 0) (slots2 := 0) (fun (z504 : Int32) => [.int z504]) (fun (z504 : Int32) (H : Heap) (locs : List Loc) (ls : Array Slot) => Rg z504 0 1 ∧ va_P D vwCl [(h, oX11 th aw ai ab ac hi re aP ta po en be de fa a5 sp av an ak ne aW aC ag aT aN aF), (aw, .inl (cI, 2179, .inl fw)), (av, .inl (cI, 400, .inl g383))] H ∧ va_D A [(h, oX11 th aw ai ab ac hi re aP ta po en be de fa a5 sp av an ak ne aW aC ag aT aN aF), (aw, .inl (cI, 2179, .inl fw)), (av, .inl (cI, 400, .inl g383))] ∧ va_S A s.heap H locs ∧ lv_has ls 11 [(9, .int x483), (8, .int x482), (4, .int x478), (7, .int x408), (6, .int y381), (5, .int x3), (0, .ref h), (1, .int line), (2, .int mm), (3, .int b)]) (fun u H locs ls hI => ?_) (fun hJ229 => ?_)
        · skip
          clear hP hD hS hl
          obtain ⟨z504, rfl⟩ : ∃ z, z = u := ⟨_, rfl⟩
          obtain ⟨hz504, hP, hD, hS, hl⟩ := hI
          have hP : va_P D vwCl [(h, oX11 th aw ai ab ac hi re aP ta po en be de fa a5 sp av an ak ne aW aC ag aT aN aF), (aw, .inl (cI, 2179, .inl fw)), (av, .inl (cI, 400, .inl g383))] H := hP
          have hD : va_D A [(h, oX11 th aw ai ab ac hi re aP ta po en be de fa a5 sp av an ak ne aW aC ag aT aN aF), (aw, .inl (cI, 2179, .inl fw)), (av, .inl (cI, 400, .inl g383))] := hD
          have hl : lv_has ls 11 [(9, .int x483), (8, .int x482), (4, .int x478), (7, .int x408), (6, .int y381), (5, .int x3), (0, .ref h), (1, .int line), (2, .int mm), (3, .int b)] := hl
          show W _ _ _ _ _ _ _ _ _ _ _ _ _ _ _ (F0 m 229 ls [.int z504])
          refine lv_istore (lv' := [(10, .int z504), (9, .int x483), (8, .int x482), (4, .int x478), (7, .int x408), (6, .int y381), (5, .int x3), (0, .ref h), (1, .int line), (2, .int mm), (3, .int b)]) hx hb dX11_holdsLine_229 hl (by decide) rfl (fun ls hl => ?_)
          refine lv_aload_n hx hb dX11_holdsLine_231 rfl (lv_at hl 7 rfl) ?_
          refine va_get (D := D) (ci := 10) (v := .ref av) (C := RX11) (T := TX11) (N := 26) hx hb hts iG_X11 hown hK hP 0 rfl rfl 16 (by decide) (hts _ w5_11) (fun _ h9 => h9) rfl dX11_holdsLine_232 ?_
          refine lv_iload hx hb dX11_holdsLine_235 (lv_at hl 3 rfl) ?_
          refine lv_iconst (v := 1) hx hb dX11_holdsLine_237 (by decide) ?_
          refine lv_isub hx hb dX11_holdsLine_238 ?_
          refine lv_topi (fun x505 ex505 => ?_)
          have tx505 : x505.toInt = x478.toInt - 1 := ti_sub ex505 k479 (rg_lit (n := 1) (by decide)) (by decide) rfl (by decide)
          have k506 : Rg x505 0 398 := rg_sub ex505 k479 (rg_lit (n := 1) (by decide)) (by decide)
          refine lv_iload hx hb dX11_holdsLine_239 (lv_at hl 4 rfl) ?_
          refine lv_bipush (v := 13) hx hb dX11_holdsLine_241 (by decide) ?_
          refine k_join (hd := 264) (cells2 := 0) (slots2 := 0) (fun (u : Int32 × Int32) => match u with | (z516, z517) => [.int z516, .int z517, .ref av]) (fun (u : Int32 × Int32) (H : Heap) (locs : List Loc) (ls : Array Slot) => match u with | (z516, z517) => Rg z517 0 398 ∧ va_P D vwCl [(h, oX11 th aw ai ab ac hi re aP ta po en be de fa a5 sp av an ak ne aW aC ag aT aN aF), (aw, .inl (cI, 2179, .inl fw)), (av, .inl (cI, 400, .inl g383))] H ∧ va_D A [(h, oX11 th aw ai ab ac hi re aP ta po en be de fa a5 sp av an ak ne aW aC ag aT aN aF), (aw, .inl (cI, 2179, .inl fw)), (av, .inl (cI, 400, .inl g383))] ∧ va_S A s.heap H locs ∧ lv_has ls 11 [(10, .int z504), (9, .int x483), (8, .int x482), (4, .int x478), (7, .int x408), (6, .int y381), (5, .int x3), (0, .ref h), (1, .int line), (2, .int mm), (3, .int b)]) (fun u H locs ls hI => ?_) (fun hJ264 => ?_)
          · skip
            clear hP hD hS hl
            obtain ⟨z516, z517⟩ := u
            obtain ⟨hz517, hP, hD, hS, hl⟩ := hI
            have hP : va_P D vwCl [(h, oX11 th aw ai ab ac hi re aP ta po en be de fa a5 sp av an ak ne aW aC ag aT aN aF), (aw, .inl (cI, 2179, .inl fw)), (av, .inl (cI, 400, .inl g383))] H := hP
            have hD : va_D A [(h, oX11 th aw ai ab ac hi re aP ta po en be de fa a5 sp av an ak ne aW aC ag aT aN aF), (aw, .inl (cI, 2179, .inl fw)), (av, .inl (cI, 400, .inl g383))] := hD
            have hl : lv_has ls 11 [(10, .int z504), (9, .int x483), (8, .int x482), (4, .int x478), (7, .int x408), (6, .int y381), (5, .int x3), (0, .ref h), (1, .int line), (2, .int mm), (3, .int b)] := hl
            show W _ _ _ _ _ _ _ _ _ _ _ _ _ _ _ (F0 m 264 ls [.int z516, .int z517, .ref av])
            refine va_iast hx hb hK hP hD hS 2 0 rfl rfl (rg_in hz517 (by decide)) dX11_holdsLine_264 (fun H locs hP hD hS => ?_)
            have hP : va_P D vwCl [(h, oX11 th aw ai ab ac hi re aP ta po en be de fa a5 sp av an ak ne aW aC ag aT aN aF), (aw, .inl (cI, 2179, .inl fw)), (av, .inl (cI, 400, .inl (upd g383 z517.toNatClampNeg z516)))] H := hP
            have hD : va_D A [(h, oX11 th aw ai ab ac hi re aP ta po en be de fa a5 sp av an ak ne aW aC ag aT aN aF), (aw, .inl (cI, 2179, .inl fw)), (av, .inl (cI, 400, .inl (upd g383 z517.toNatClampNeg z516)))] := hD
            generalize hge : (upd g383 z517.toNatClampNeg z516) = g518 at hP hD
            clear hge
            obtain ⟨x519, ex519⟩ : ∃ y : Int32, y = y381 + 1 := ⟨_, rfl⟩
            refine lv_iinc (v := x519) (lv' := [(6, .int x519), (10, .int z504), (9, .int x483), (8, .int x482), (4, .int x478), (7, .int x408), (5, .int x3), (0, .ref h), (1, .int line), (2, .int mm), (3, .int b)]) hx hb dX11_holdsLine_265 hl (k := 5) rfl (by rw [ex519]; rfl) (by decide) rfl (fun ls hl => ?_)
            have k520 : Rg x519 1 400 := rg_add ex519 k402 (rg_lit (n := 1) (by decide)) (by decide)
            refine lv_goto (tgt := 23) hx hb dX11_holdsLine_268 (by decide) ?_
            exact ih384 (x519, x478, g518) _ _ _ (by show (400 - (x519).toInt).toNat < (400 - (y381).toInt).toNat; exact mu_up ex519 k402 k520 (by decide)) ⟨⟨i9 + 1, (by have q3 := ti_add (Y := 1) ex519 k402 (rg_lit (n := 1) (by decide)) (by decide) rfl (by decide); have q7 := hI9; omega), (by omega), (by have q1 : b9 - (i9 + 1) = n9 := (by omega); have q5 := ti_add (Y := -1) ex478 k477 (rg_lit (n := -1) (by decide)) (by decide) rfl (by decide); have q6 := k477; have q4 : cN x478 = cN y382 - 1 := (by simp only [cN]; unfold Rg at q6; omega); rw [q1, q4]; exact hq9), (by have q8 := k479; unfold Rg at q8; omega)⟩, (rg_w k520 (by decide)), (rg_w k479 (by decide)), hP.sub (ws' := [(h, oX11 th aw ai ab ac hi re aP ta po en be de fa a5 sp av an ak ne aW aC ag aT aN aF), (aw, .inl (cI, 2179, .inl fw)), (av, .inl (cI, 400, .inl g518))]) [0, 1, 2] rfl, hD.sub (ws' := [(h, oX11 th aw ai ab ac hi re aP ta po en be de fa a5 sp av an ak ne aW aC ag aT aN aF), (aw, .inl (cI, 2179, .inl fw)), (av, .inl (cI, 400, .inl g518))]) [0, 1, 2] (by decide) rfl, hS, lv_sub (l' := [(6, .int x519), (5, .int x3), (4, .int x478), (0, .ref h), (1, .int line), (2, .int mm), (3, .int b)]) hl [0, 6, 4, 7, 8, 9, 10] rfl⟩
          refine lv_icmp_ne (tgt := 254) hx hb dX11_holdsLine_243 (by decide) (fun c521 => ?_) (fun c521 => ?_)
          · skip
            have k522 : Rg x408 14 18 := rg_n1 (neI c521) k475 (rg_lit (n := 13) (by decide)) (by decide)
            refine lv_iload hx hb dX11_holdsLine_254 (lv_at hl 0 rfl) ?_
            refine lv_if_eq (tgt := 263) hx hb dX11_holdsLine_256 (by decide) (fun c523 => ?_) (fun c523 => ?_)
            · skip
              have k524 : Rg z504 0 0 := rg_q1 (eqI c523) hz504 (rg_lit (n := 0) (by decide)) (by decide)
              refine lv_iconst (v := 0) hx hb dX11_holdsLine_263 (by decide) ?_
              exact hJ264 ((0 : Int32), x505) _ _ _ ⟨k506, hP.sub (ws' := [(h, oX11 th aw ai ab ac hi re aP ta po en be de fa a5 sp av an ak ne aW aC ag aT aN aF), (aw, .inl (cI, 2179, .inl fw)), (av, .inl (cI, 400, .inl g383))]) [0, 1, 2] rfl, hD.sub (ws' := [(h, oX11 th aw ai ab ac hi re aP ta po en be de fa a5 sp av an ak ne aW aC ag aT aN aF), (aw, .inl (cI, 2179, .inl fw)), (av, .inl (cI, 400, .inl g383))]) [0, 1, 2] (by decide) rfl, hS, lv_sub (l' := [(10, .int z504), (9, .int x483), (8, .int x482), (4, .int x478), (7, .int x408), (6, .int y381), (5, .int x3), (0, .ref h), (1, .int line), (2, .int mm), (3, .int b)]) hl [0, 1, 2, 3, 4, 5, 6, 7, 8, 9, 10] rfl⟩
            · skip
              have k525 : Rg z504 1 1 := rg_n1 (neI c523) hz504 (rg_lit (n := 0) (by decide)) (by decide)
              refine lv_iconst (v := 1) hx hb dX11_holdsLine_259 (by decide) ?_
              refine lv_goto (tgt := 264) hx hb dX11_holdsLine_260 (by decide) ?_
              exact hJ264 ((1 : Int32), x505) _ _ _ ⟨k506, hP.sub (ws' := [(h, oX11 th aw ai ab ac hi re aP ta po en be de fa a5 sp av an ak ne aW aC ag aT aN aF), (aw, .inl (cI, 2179, .inl fw)), (av, .inl (cI, 400, .inl g383))]) [0, 1, 2] rfl, hD.sub (ws' := [(h, oX11 th aw ai ab ac hi re aP ta po en be de fa a5 sp av an ak ne aW aC ag aT aN aF), (aw, .inl (cI, 2179, .inl fw)), (av, .inl (cI, 400, .inl g383))]) [0, 1, 2] (by decide) rfl, hS, lv_sub (l' := [(10, .int z504), (9, .int x483), (8, .int x482), (4, .int x478), (7, .int x408), (6, .int y381), (5, .int x3), (0, .ref h), (1, .int line), (2, .int mm), (3, .int b)]) hl [0, 1, 2, 3, 4, 5, 6, 7, 8, 9, 10] rfl⟩
          · skip
            have k526 : Rg x408 13 13 := rg_q1 (eqI c521) k475 (rg_lit (n := 13) (by decide)) (by decide)
            refine lv_iload hx hb dX11_holdsLine_246 (lv_at hl 2 rfl) ?_
            refine lv_iload hx hb dX11_holdsLine_248 (lv_at hl 1 rfl) ?_
            refine lv_iadd hx hb dX11_holdsLine_250 ?_
            refine lv_topi (fun x527 ex527 => ?_)
            refine lv_goto (tgt := 264) hx hb dX11_holdsLine_251 (by decide) ?_
            exact hJ264 (x527, x505) _ _ _ ⟨k506, hP.sub (ws' := [(h, oX11 th aw ai ab ac hi re aP ta po en be de fa a5 sp av an ak ne aW aC ag aT aN aF), (aw, .inl (cI, 2179, .inl fw)), (av, .inl (cI, 400, .inl g383))]) [0, 1, 2] rfl, hD.sub (ws' := [(h, oX11 th aw ai ab ac hi re aP ta po en be de fa a5 sp av an ak ne aW aC ag aT aN aF), (aw, .inl (cI, 2179, .inl fw)), (av, .inl (cI, 400, .inl g383))]) [0, 1, 2] (by decide) rfl, hS, lv_sub (l' := [(10, .int z504), (9, .int x483), (8, .int x482), (4, .int x478), (7, .int x408), (6, .int y381), (5, .int x3), (0, .ref h), (1, .int line), (2, .int mm), (3, .int b)]) hl [0, 1, 2, 3, 4, 5, 6, 7, 8, 9, 10] rfl⟩
        refine lv_icmp_ne (tgt := 170) hx hb dX11_holdsLine_152 (by decide) (fun c528 => ?_) (fun c528 => ?_)
        · skip
          refine lv_iload hx hb dX11_holdsLine_170 (lv_at hl 3 rfl) ?_
          refine lv_bipush (v := 15) hx hb dX11_holdsLine_172 (by decide) ?_
          refine lv_icmp_ne (tgt := 192) hx hb dX11_holdsLine_174 (by decide) (fun c529 => ?_) (fun c529 => ?_)
          · skip
            refine lv_iload hx hb dX11_holdsLine_192 (lv_at hl 3 rfl) ?_
            refine lv_bipush (v := 17) hx hb dX11_holdsLine_194 (by decide) ?_
            refine lv_icmp_ne (tgt := 216) hx hb dX11_holdsLine_196 (by decide) (fun c530 => ?_) (fun c530 => ?_)
            · skip
              refine lv_iload hx hb dX11_holdsLine_216 (lv_at hl 1 rfl) ?_
              refine lv_iload hx hb dX11_holdsLine_218 (lv_at hl 0 rfl) ?_
              refine lv_iadd hx hb dX11_holdsLine_220 ?_
              refine lv_topi (fun x531 ex531 => ?_)
              refine lv_if_le (tgt := 228) hx hb dX11_holdsLine_221 (by decide) (fun c532 => ?_) (fun c532 => ?_)
              · skip
                have k533 : Rg x531 (-2147483648) 0 := rg_e1 (leI c532) (rg_any x531) (rg_lit (n := 0) (by decide)) (by decide)
                refine lv_iconst (v := 0) hx hb dX11_holdsLine_228 (by decide) ?_
                exact hJ229 ((0 : Int32)) _ _ _ ⟨(rg_w (rg_lit (n := 0) (by decide)) (by decide)), hP.sub (ws' := [(h, oX11 th aw ai ab ac hi re aP ta po en be de fa a5 sp av an ak ne aW aC ag aT aN aF), (aw, .inl (cI, 2179, .inl fw)), (av, .inl (cI, 400, .inl g383))]) [0, 1, 2] rfl, hD.sub (ws' := [(h, oX11 th aw ai ab ac hi re aP ta po en be de fa a5 sp av an ak ne aW aC ag aT aN aF), (aw, .inl (cI, 2179, .inl fw)), (av, .inl (cI, 400, .inl g383))]) [0, 1, 2] (by decide) rfl, hS, lv_sub (l' := [(9, .int x483), (8, .int x482), (4, .int x478), (7, .int x408), (6, .int y381), (5, .int x3), (0, .ref h), (1, .int line), (2, .int mm), (3, .int b)]) hl [0, 1, 2, 3, 4, 5, 6, 7, 8, 9] rfl⟩
              · skip
                have k534 : Rg x531 1 2147483647 := rg_l2 (nleI c532) (rg_lit (n := 0) (by decide)) (rg_any x531) (by decide)
                refine lv_iconst (v := 1) hx hb dX11_holdsLine_224 (by decide) ?_
                refine lv_goto (tgt := 229) hx hb dX11_holdsLine_225 (by decide) ?_
                exact hJ229 ((1 : Int32)) _ _ _ ⟨(rg_w (rg_lit (n := 1) (by decide)) (by decide)), hP.sub (ws' := [(h, oX11 th aw ai ab ac hi re aP ta po en be de fa a5 sp av an ak ne aW aC ag aT aN aF), (aw, .inl (cI, 2179, .inl fw)), (av, .inl (cI, 400, .inl g383))]) [0, 1, 2] rfl, hD.sub (ws' := [(h, oX11 th aw ai ab ac hi re aP ta po en be de fa a5 sp av an ak ne aW aC ag aT aN aF), (aw, .inl (cI, 2179, .inl fw)), (av, .inl (cI, 400, .inl g383))]) [0, 1, 2] (by decide) rfl, hS, lv_sub (l' := [(9, .int x483), (8, .int x482), (4, .int x478), (7, .int x408), (6, .int y381), (5, .int x3), (0, .ref h), (1, .int line), (2, .int mm), (3, .int b)]) hl [0, 1, 2, 3, 4, 5, 6, 7, 8, 9] rfl⟩
            · skip
              have k535 : Rg x408 17 17 := rg_q1 (eqI c530) k475 (rg_lit (n := 17) (by decide)) (by decide)
              refine lv_iload hx hb dX11_holdsLine_199 (lv_at hl 1 rfl) ?_
              refine lv_iload hx hb dX11_holdsLine_201 (lv_at hl 0 rfl) ?_
              refine lv_iadd hx hb dX11_holdsLine_203 ?_
              refine lv_topi (fun x536 ex536 => ?_)
              refine lv_iconst (v := 2) hx hb dX11_holdsLine_204 (by decide) ?_
              refine lv_icmp_ne (tgt := 212) hx hb dX11_holdsLine_205 (by decide) (fun c537 => ?_) (fun c537 => ?_)
              · skip
                refine lv_iconst (v := 0) hx hb dX11_holdsLine_212 (by decide) ?_
                refine lv_goto (tgt := 229) hx hb dX11_holdsLine_213 (by decide) ?_
                exact hJ229 ((0 : Int32)) _ _ _ ⟨(rg_w (rg_lit (n := 0) (by decide)) (by decide)), hP.sub (ws' := [(h, oX11 th aw ai ab ac hi re aP ta po en be de fa a5 sp av an ak ne aW aC ag aT aN aF), (aw, .inl (cI, 2179, .inl fw)), (av, .inl (cI, 400, .inl g383))]) [0, 1, 2] rfl, hD.sub (ws' := [(h, oX11 th aw ai ab ac hi re aP ta po en be de fa a5 sp av an ak ne aW aC ag aT aN aF), (aw, .inl (cI, 2179, .inl fw)), (av, .inl (cI, 400, .inl g383))]) [0, 1, 2] (by decide) rfl, hS, lv_sub (l' := [(9, .int x483), (8, .int x482), (4, .int x478), (7, .int x408), (6, .int y381), (5, .int x3), (0, .ref h), (1, .int line), (2, .int mm), (3, .int b)]) hl [0, 1, 2, 3, 4, 5, 6, 7, 8, 9] rfl⟩
              · skip
                have k538 : Rg x536 2 2 := rg_q1 (eqI c537) (rg_any x536) (rg_lit (n := 2) (by decide)) (by decide)
                refine lv_iconst (v := 1) hx hb dX11_holdsLine_208 (by decide) ?_
                refine lv_goto (tgt := 229) hx hb dX11_holdsLine_209 (by decide) ?_
                exact hJ229 ((1 : Int32)) _ _ _ ⟨(rg_w (rg_lit (n := 1) (by decide)) (by decide)), hP.sub (ws' := [(h, oX11 th aw ai ab ac hi re aP ta po en be de fa a5 sp av an ak ne aW aC ag aT aN aF), (aw, .inl (cI, 2179, .inl fw)), (av, .inl (cI, 400, .inl g383))]) [0, 1, 2] rfl, hD.sub (ws' := [(h, oX11 th aw ai ab ac hi re aP ta po en be de fa a5 sp av an ak ne aW aC ag aT aN aF), (aw, .inl (cI, 2179, .inl fw)), (av, .inl (cI, 400, .inl g383))]) [0, 1, 2] (by decide) rfl, hS, lv_sub (l' := [(9, .int x483), (8, .int x482), (4, .int x478), (7, .int x408), (6, .int y381), (5, .int x3), (0, .ref h), (1, .int line), (2, .int mm), (3, .int b)]) hl [0, 1, 2, 3, 4, 5, 6, 7, 8, 9] rfl⟩
          · skip
            have k539 : Rg x408 15 15 := rg_q1 (eqI c529) k475 (rg_lit (n := 15) (by decide)) (by decide)
            refine lv_iload hx hb dX11_holdsLine_177 (lv_at hl 1 rfl) ?_
            refine lv_iload hx hb dX11_holdsLine_179 (lv_at hl 0 rfl) ?_
            refine lv_icmp_le (tgt := 188) hx hb dX11_holdsLine_181 (by decide) (fun c540 => ?_) (fun c540 => ?_)
            · skip
              refine lv_iconst (v := 0) hx hb dX11_holdsLine_188 (by decide) ?_
              refine lv_goto (tgt := 229) hx hb dX11_holdsLine_189 (by decide) ?_
              exact hJ229 ((0 : Int32)) _ _ _ ⟨(rg_w (rg_lit (n := 0) (by decide)) (by decide)), hP.sub (ws' := [(h, oX11 th aw ai ab ac hi re aP ta po en be de fa a5 sp av an ak ne aW aC ag aT aN aF), (aw, .inl (cI, 2179, .inl fw)), (av, .inl (cI, 400, .inl g383))]) [0, 1, 2] rfl, hD.sub (ws' := [(h, oX11 th aw ai ab ac hi re aP ta po en be de fa a5 sp av an ak ne aW aC ag aT aN aF), (aw, .inl (cI, 2179, .inl fw)), (av, .inl (cI, 400, .inl g383))]) [0, 1, 2] (by decide) rfl, hS, lv_sub (l' := [(9, .int x483), (8, .int x482), (4, .int x478), (7, .int x408), (6, .int y381), (5, .int x3), (0, .ref h), (1, .int line), (2, .int mm), (3, .int b)]) hl [0, 1, 2, 3, 4, 5, 6, 7, 8, 9] rfl⟩
            · skip
              have k541 : Rg x482 (-2147483647) 2147483647 := rg_l2 (nleI c540) (rg_any x483) (rg_any x482) (by decide)
              have k542 : Rg x483 (-2147483648) 2147483646 := rg_l1 (nleI c540) (rg_any x483) (rg_any x482) (by decide)
              refine lv_iconst (v := 1) hx hb dX11_holdsLine_184 (by decide) ?_
              refine lv_goto (tgt := 229) hx hb dX11_holdsLine_185 (by decide) ?_
              exact hJ229 ((1 : Int32)) _ _ _ ⟨(rg_w (rg_lit (n := 1) (by decide)) (by decide)), hP.sub (ws' := [(h, oX11 th aw ai ab ac hi re aP ta po en be de fa a5 sp av an ak ne aW aC ag aT aN aF), (aw, .inl (cI, 2179, .inl fw)), (av, .inl (cI, 400, .inl g383))]) [0, 1, 2] rfl, hD.sub (ws' := [(h, oX11 th aw ai ab ac hi re aP ta po en be de fa a5 sp av an ak ne aW aC ag aT aN aF), (aw, .inl (cI, 2179, .inl fw)), (av, .inl (cI, 400, .inl g383))]) [0, 1, 2] (by decide) rfl, hS, lv_sub (l' := [(9, .int x483), (8, .int x482), (4, .int x478), (7, .int x408), (6, .int y381), (5, .int x3), (0, .ref h), (1, .int line), (2, .int mm), (3, .int b)]) hl [0, 1, 2, 3, 4, 5, 6, 7, 8, 9] rfl⟩
        · skip
          have k543 : Rg x408 14 14 := rg_q1 (eqI c528) k475 (rg_lit (n := 14) (by decide)) (by decide)
          refine lv_iload hx hb dX11_holdsLine_155 (lv_at hl 1 rfl) ?_
          refine lv_iload hx hb dX11_holdsLine_157 (lv_at hl 0 rfl) ?_
          refine lv_icmp_ge (tgt := 166) hx hb dX11_holdsLine_159 (by decide) (fun c544 => ?_) (fun c544 => ?_)
          · skip
            refine lv_iconst (v := 0) hx hb dX11_holdsLine_166 (by decide) ?_
            refine lv_goto (tgt := 229) hx hb dX11_holdsLine_167 (by decide) ?_
            exact hJ229 ((0 : Int32)) _ _ _ ⟨(rg_w (rg_lit (n := 0) (by decide)) (by decide)), hP.sub (ws' := [(h, oX11 th aw ai ab ac hi re aP ta po en be de fa a5 sp av an ak ne aW aC ag aT aN aF), (aw, .inl (cI, 2179, .inl fw)), (av, .inl (cI, 400, .inl g383))]) [0, 1, 2] rfl, hD.sub (ws' := [(h, oX11 th aw ai ab ac hi re aP ta po en be de fa a5 sp av an ak ne aW aC ag aT aN aF), (aw, .inl (cI, 2179, .inl fw)), (av, .inl (cI, 400, .inl g383))]) [0, 1, 2] (by decide) rfl, hS, lv_sub (l' := [(9, .int x483), (8, .int x482), (4, .int x478), (7, .int x408), (6, .int y381), (5, .int x3), (0, .ref h), (1, .int line), (2, .int mm), (3, .int b)]) hl [0, 1, 2, 3, 4, 5, 6, 7, 8, 9] rfl⟩
          · skip
            have k545 : Rg x482 (-2147483648) 2147483646 := rg_l1 (nleI c544) (rg_any x482) (rg_any x483) (by decide)
            have k546 : Rg x483 (-2147483647) 2147483647 := rg_l2 (nleI c544) (rg_any x482) (rg_any x483) (by decide)
            refine lv_iconst (v := 1) hx hb dX11_holdsLine_162 (by decide) ?_
            refine lv_goto (tgt := 229) hx hb dX11_holdsLine_163 (by decide) ?_
            exact hJ229 ((1 : Int32)) _ _ _ ⟨(rg_w (rg_lit (n := 1) (by decide)) (by decide)), hP.sub (ws' := [(h, oX11 th aw ai ab ac hi re aP ta po en be de fa a5 sp av an ak ne aW aC ag aT aN aF), (aw, .inl (cI, 2179, .inl fw)), (av, .inl (cI, 400, .inl g383))]) [0, 1, 2] rfl, hD.sub (ws' := [(h, oX11 th aw ai ab ac hi re aP ta po en be de fa a5 sp av an ak ne aW aC ag aT aN aF), (aw, .inl (cI, 2179, .inl fw)), (av, .inl (cI, 400, .inl g383))]) [0, 1, 2] (by decide) rfl, hS, lv_sub (l' := [(9, .int x483), (8, .int x482), (4, .int x478), (7, .int x408), (6, .int y381), (5, .int x3), (0, .ref h), (1, .int line), (2, .int mm), (3, .int b)]) hl [0, 1, 2, 3, 4, 5, 6, 7, 8, 9] rfl⟩
      · skip
        have k547 : Rg x408 16 16 := rg_q1 (eqI c476) k475 (rg_lit (n := 16) (by decide)) (by decide)
        obtain ⟨hd9, hq9⟩ := hm9 (by rw [← hz9]; have q1 := (eqI c476); have q4 : (16 : Int32).toInt = 16 := (by decide); omega)
        have k548 : Rg y382 1 400 := (by have q1 := hd9; have q2 := hy382; simp only [cN] at q1; unfold Rg at q2; exact ⟨by omega, by omega⟩)
        refine lv_aload_n hx hb dX11_holdsLine_102 rfl (lv_at hl 4 rfl) ?_
        refine va_get (D := D) (ci := 10) (v := .ref av) (C := RX11) (T := TX11) (N := 26) hx hb hts iG_X11 hown hK hP 0 rfl rfl 16 (by decide) (hts _ w5_11) (fun _ h9 => h9) rfl dX11_holdsLine_103 ?_
        refine lv_iload hx hb dX11_holdsLine_106 (lv_at hl 3 rfl) ?_
        refine lv_iconst (v := 1) hx hb dX11_holdsLine_108 (by decide) ?_
        refine lv_isub hx hb dX11_holdsLine_109 ?_
        refine lv_topi (fun x549 ex549 => ?_)
        have tx549 : x549.toInt = y382.toInt - 1 := ti_sub ex549 k548 (rg_lit (n := 1) (by decide)) (by decide) rfl (by decide)
        have k550 : Rg x549 0 399 := rg_sub ex549 k548 (rg_lit (n := 1) (by decide)) (by decide)
        refine lv_iconst (v := 1) hx hb dX11_holdsLine_110 (by decide) ?_
        refine lv_aload_n hx hb dX11_holdsLine_111 rfl (lv_at hl 4 rfl) ?_
        refine va_get (D := D) (ci := 10) (v := .ref av) (C := RX11) (T := TX11) (N := 26) hx hb hts iG_X11 hown hK hP 0 rfl rfl 16 (by decide) (hts _ w5_11) (fun _ h9 => h9) rfl dX11_holdsLine_112 ?_
        refine lv_iload hx hb dX11_holdsLine_115 (lv_at hl 3 rfl) ?_
        refine lv_iconst (v := 1) hx hb dX11_holdsLine_117 (by decide) ?_
        refine lv_isub hx hb dX11_holdsLine_118 ?_
        refine lv_topi (fun x551 ex551 => ?_)
        have tx551 : x551.toInt = y382.toInt - 1 := ti_sub ex551 k548 (rg_lit (n := 1) (by decide)) (by decide) rfl (by decide)
        have k552 : Rg x551 0 399 := rg_sub ex551 k548 (rg_lit (n := 1) (by decide)) (by decide)
        refine va_iald hx hb hK hP 2 0 rfl rfl (rg_in k552 (by decide)) dX11_holdsLine_119 ?_
        refine lv_topi (fun x553 ex553 => ?_)
        refine lv_isub hx hb dX11_holdsLine_120 ?_
        refine lv_topi (fun x554 ex554 => ?_)
        refine va_iast hx hb hK hP hD hS 2 0 rfl rfl (rg_in k550 (by decide)) dX11_holdsLine_121 (fun H locs hP hD hS => ?_)
        have hP : va_P D vwCl [(h, oX11 th aw ai ab ac hi re aP ta po en be de fa a5 sp av an ak ne aW aC ag aT aN aF), (aw, .inl (cI, 2179, .inl fw)), (av, .inl (cI, 400, .inl (upd g383 x549.toNatClampNeg x554)))] H := hP
        have hD : va_D A [(h, oX11 th aw ai ab ac hi re aP ta po en be de fa a5 sp av an ak ne aW aC ag aT aN aF), (aw, .inl (cI, 2179, .inl fw)), (av, .inl (cI, 400, .inl (upd g383 x549.toNatClampNeg x554)))] := hD
        generalize hge : (upd g383 x549.toNatClampNeg x554) = g555 at hP hD
        clear hge
        refine lv_goto (tgt := 265) hx hb dX11_holdsLine_122 (by decide) ?_
        obtain ⟨x556, ex556⟩ : ∃ y : Int32, y = y381 + 1 := ⟨_, rfl⟩
        refine lv_iinc (v := x556) (lv' := [(6, .int x556), (7, .int x408), (5, .int x3), (4, .int y382), (0, .ref h), (1, .int line), (2, .int mm), (3, .int b)]) hx hb dX11_holdsLine_265 hl (k := 1) rfl (by rw [ex556]; rfl) (by decide) rfl (fun ls hl => ?_)
        have k557 : Rg x556 1 400 := rg_add ex556 k402 (rg_lit (n := 1) (by decide)) (by decide)
        refine lv_goto (tgt := 23) hx hb dX11_holdsLine_268 (by decide) ?_
        exact ih384 (x556, y382, g555) _ _ _ (by show (400 - (x556).toInt).toNat < (400 - (y381).toInt).toNat; exact mu_up ex556 k402 k557 (by decide)) ⟨⟨i9 + 1, (by have q3 := ti_add (Y := 1) ex556 k402 (rg_lit (n := 1) (by decide)) (by decide) rfl (by decide); have q7 := hI9; omega), (by omega), (by have q1 : b9 - (i9 + 1) = n9 := (by omega); have q4 : cN y382 = cN y382 := rfl; rw [q1, q4]; exact hq9), (by have q8 := k548; unfold Rg at q8; omega)⟩, (rg_w k557 (by decide)), (rg_w k548 (by decide)), hP.sub (ws' := [(h, oX11 th aw ai ab ac hi re aP ta po en be de fa a5 sp av an ak ne aW aC ag aT aN aF), (aw, .inl (cI, 2179, .inl fw)), (av, .inl (cI, 400, .inl g555))]) [0, 1, 2] rfl, hD.sub (ws' := [(h, oX11 th aw ai ab ac hi re aP ta po en be de fa a5 sp av an ak ne aW aC ag aT aN aF), (aw, .inl (cI, 2179, .inl fw)), (av, .inl (cI, 400, .inl g555))]) [0, 1, 2] (by decide) rfl, hS, lv_sub (l' := [(6, .int x556), (5, .int x3), (4, .int y382), (0, .ref h), (1, .int line), (2, .int mm), (3, .int b)]) hl [0, 2, 3, 4, 5, 6, 7] rfl⟩
    · skip
      have k558 : Rg x408 0 12 := rg_e1 (nltI c474) k409 (rg_lit (n := 12) (by decide)) (by decide)
      obtain ⟨hd9, hq9⟩ := hp9 (by rw [← hz9]; have q1 := (nltI c474); have q2 : (12 : Int32).toInt = 12 := (by decide); omega)
      have k559 : Rg y382 0 399 := (by have q1 := hd9; have q2 := hT0; simp only [cN] at q1; exact ⟨by omega, by omega⟩)
      refine lv_aload_n hx hb dX11_holdsLine_59 rfl (lv_at hl 4 rfl) ?_
      refine va_get (D := D) (ci := 10) (v := .ref av) (C := RX11) (T := TX11) (N := 26) hx hb hts iG_X11 hown hK hP 0 rfl rfl 16 (by decide) (hts _ w5_11) (fun _ h9 => h9) rfl dX11_holdsLine_60 ?_
      refine lv_iload hx hb dX11_holdsLine_63 (lv_at hl 3 rfl) ?_
      refine lv_aload_n hx hb dX11_holdsLine_65 rfl (lv_at hl 4 rfl) ?_
      refine lv_iload hx hb dX11_holdsLine_66 (lv_at hl 0 rfl) ?_
      refine lv_aload_n hx hb dX11_holdsLine_68 rfl (lv_at hl 4 rfl) ?_
      refine va_get (D := D) (ci := 10) (v := .ref aw) (C := RX11) (T := TX11) (N := 26) hx hb hts iG_X11 hown hK hP 0 rfl rfl 1 (by decide) (hts _ w5_3) (fun _ h9 => h9) rfl dX11_holdsLine_69 ?_
      refine lv_sipush (v := 542) hx hb dX11_holdsLine_72 (by decide) ?_
      refine lv_iconst (v := 2) hx hb dX11_holdsLine_75 (by decide) ?_
      refine lv_iload hx hb dX11_holdsLine_76 (lv_at hl 1 rfl) ?_
      refine lv_imul hx hb dX11_holdsLine_78 ?_
      refine lv_topi (fun x560 ex560 => ?_)
      have tx560 : x560.toInt = 2 * y381.toInt := ti_mul ex560 (rg_lit (n := 2) (by decide)) k402 (by decide) (by decide) rfl
      have k561 : Rg x560 0 798 := rg_mul ex560 (rg_lit (n := 2) (by decide)) k402 (by decide)
      refine lv_iadd hx hb dX11_holdsLine_79 ?_
      refine lv_topi (fun x562 ex562 => ?_)
      have tx562 : x562.toInt = 542 + x560.toInt := ti_add ex562 (rg_lit (n := 542) (by decide)) k561 (by decide) (by decide) rfl
      have k563 : Rg x562 542 1340 := rg_add ex562 (rg_lit (n := 542) (by decide)) k561 (by decide)
      refine lv_iconst (v := 1) hx hb dX11_holdsLine_80 (by decide) ?_
      refine lv_iadd hx hb dX11_holdsLine_81 ?_
      refine lv_topi (fun x564 ex564 => ?_)
      have tx564 : x564.toInt = x562.toInt + 1 := ti_add ex564 k563 (rg_lit (n := 1) (by decide)) (by decide) rfl (by decide)
      have k565 : Rg x564 543 1341 := rg_add ex564 k563 (rg_lit (n := 1) (by decide)) (by decide)
      refine va_iald hx hb hK hP 1 0 rfl rfl (rg_in k565 (by decide)) dX11_holdsLine_82 ?_
      refine lv_topi (fun x566 ex566 => ?_)
      refine lv_iload_n hx hb dX11_holdsLine_83 rfl (lv_at hl 6 rfl) ?_
      refine lv_iload_n hx hb dX11_holdsLine_84 rfl (lv_at hl 7 rfl) ?_
      refine kpurei (wc := [(h, oX11 th aw ai ab ac hi re aP ta po en be de fa a5 sp av an ak ne aW aC ag aT aN aF), (aw, .inl (cI, 2179, .inl fw))]) hP hD hS hA [0, 1] rfl (by decide) (fun hPc hDc hFc => va_runV (As := [.int x408, .int x566, .int mm, .int b]) (rest := [.int y382, .ref av]) ⟨hx, hb, hml, hown, hts⟩ (r_factOf l D cI cJ cB cC h th aw ai ab ac hi re aP ta po en be de fa a5 sp av an ak ne aW aC ag aT aN aF fw x408 x566 mm b H.size H_mm H_b k558 H_fw_W) (cwV 4 hts gX11_holdsLine_X11_factOf rfl rfl rfl ⟨rfl, hdX11_factOf⟩ ⟨Nat.le_of_ble_eq_true rfl, Nat.le_of_ble_eq_true rfl⟩) ⟨kBlind, va_recv hK hPc (ci := 10) (q0 := 0) rfl rfl, fun U hU hW => ⟨rfl, by rw [hU], hN.warm hW, hE.pass hS hFc hW hU, by rw [hU]; exact hPc, va_K.moved hW.alike hK, hDc⟩⟩ rfl rfl hl.1 rfl (lv_room (Nat.le_of_ble_eq_true rfl)) dX11_holdsLine_85 ⟨Nat.le_of_ble_eq_true rfl, Nat.le_of_ble_eq_true rfl⟩) (fun r567 u H locs hw hP hS => ?_)
      refine va_iast hx hb hK hP hD hS 2 0 rfl rfl (rg_in k559 (by decide)) dX11_holdsLine_88 (fun H locs hP hD hS => ?_)
      have hP : va_P D vwCl [(h, oX11 th aw ai ab ac hi re aP ta po en be de fa a5 sp av an ak ne aW aC ag aT aN aF), (aw, .inl (cI, 2179, .inl fw)), (av, .inl (cI, 400, .inl (upd g383 y382.toNatClampNeg r567)))] H := hP
      have hD : va_D A [(h, oX11 th aw ai ab ac hi re aP ta po en be de fa a5 sp av an ak ne aW aC ag aT aN aF), (aw, .inl (cI, 2179, .inl fw)), (av, .inl (cI, 400, .inl (upd g383 y382.toNatClampNeg r567)))] := hD
      generalize hge : (upd g383 y382.toNatClampNeg r567) = g568 at hP hD
      clear hge
      obtain ⟨x569, ex569⟩ : ∃ y : Int32, y = y382 + 1 := ⟨_, rfl⟩
      refine lv_iinc (v := x569) (lv' := [(4, .int x569), (7, .int x408), (6, .int y381), (5, .int x3), (0, .ref h), (1, .int line), (2, .int mm), (3, .int b)]) hx hb dX11_holdsLine_89 hl (k := 3) rfl (by rw [ex569]; rfl) (by decide) rfl (fun ls hl => ?_)
      have k570 : Rg x569 1 400 := rg_add ex569 k559 (rg_lit (n := 1) (by decide)) (by decide)
      refine lv_goto (tgt := 265) hx hb dX11_holdsLine_92 (by decide) ?_
      obtain ⟨x571, ex571⟩ : ∃ y : Int32, y = y381 + 1 := ⟨_, rfl⟩
      refine lv_iinc (v := x571) (lv' := [(6, .int x571), (4, .int x569), (7, .int x408), (5, .int x3), (0, .ref h), (1, .int line), (2, .int mm), (3, .int b)]) hx hb dX11_holdsLine_265 hl (k := 2) rfl (by rw [ex571]; rfl) (by decide) rfl (fun ls hl => ?_)
      have k572 : Rg x571 1 400 := rg_add ex571 k402 (rg_lit (n := 1) (by decide)) (by decide)
      refine lv_goto (tgt := 23) hx hb dX11_holdsLine_268 (by decide) ?_
      exact ih384 (x571, x569, g568) _ _ _ (by show (400 - (x571).toInt).toNat < (400 - (y381).toInt).toNat; exact mu_up ex571 k402 k572 (by decide)) ⟨⟨i9 + 1, (by have q3 := ti_add (Y := 1) ex571 k402 (rg_lit (n := 1) (by decide)) (by decide) rfl (by decide); have q7 := hI9; omega), (by omega), (by have q1 : b9 - (i9 + 1) = n9 := (by omega); have q5 := ti_add (Y := 1) ex569 k559 (rg_lit (n := 1) (by decide)) (by decide) rfl (by decide); have q6 := k559; have q4 : cN x569 = cN y382 + 1 := (by simp only [cN]; unfold Rg at q6; omega); rw [q1, q4]; exact hq9), (by have q8 := k570; unfold Rg at q8; omega)⟩, (rg_w k572 (by decide)), (rg_w k570 (by decide)), hP.sub (ws' := [(h, oX11 th aw ai ab ac hi re aP ta po en be de fa a5 sp av an ak ne aW aC ag aT aN aF), (aw, .inl (cI, 2179, .inl fw)), (av, .inl (cI, 400, .inl g568))]) [0, 1, 2] rfl, hD.sub (ws' := [(h, oX11 th aw ai ab ac hi re aP ta po en be de fa a5 sp av an ak ne aW aC ag aT aN aF), (aw, .inl (cI, 2179, .inl fw)), (av, .inl (cI, 400, .inl g568))]) [0, 1, 2] (by decide) rfl, hS, lv_sub (l' := [(6, .int x571), (5, .int x3), (4, .int x569), (0, .ref h), (1, .int line), (2, .int mm), (3, .int b)]) hl [0, 3, 1, 4, 5, 6, 7] rfl⟩

def kwX11_isBarred : List Cond := .code yX11_isBarred cX11_isBarred 5 (some .boolean) :: kG
theorem hdX11_isBarred : yX11_isBarred.cls ≠ "java/lang/invoke/MethodHandle" ∧ yX11_isBarred.cls ≠ "java/lang/invoke/VarHandle" ∧ (parseMethodDescriptor yX11_isBarred.desc).map (fun d => d.parameters.length) = some 2 := by decide +kernel
theorem gX11_isBarred_X11_holdsLine : GoodIn kG (wsV RX11 277 RX11 yX11_holdsLine kwX11_holdsLine) := gK w30_15 (gK w30_16 (gK w30_17 (gK w0_5 (gK w30_18 gGG))))
theorem gX11_isBarred_X11_isNextToLast : GoodIn kG (wsV RX11 270 RX11 yX11_isNextToLast kwX11_isNextToLast) := gK w30_11 (gK w30_12 (gK w30_13 (gK w0_5 (gK w30_14 gGG))))
theorem dX11_isBarred_0 : decode cX11_isBarred 0 = .ok (.aload_n 0, 1) := by decide +kernel
theorem dX11_isBarred_1 : decode cX11_isBarred 1 = .ok (.getfield 13, 3) := by decide +kernel
theorem dX11_isBarred_4 : decode cX11_isBarred 4 = .ok (.iconst 3, 1) := by decide +kernel
theorem dX11_isBarred_5 : decode cX11_isBarred 5 = .ok (.iaload, 1) := by decide +kernel
theorem dX11_isBarred_6 : decode cX11_isBarred 6 = .ok (.ifCond .ne 10, 3) := by decide +kernel
theorem dX11_isBarred_9 : decode cX11_isBarred 9 = .ok (.aload_n 0, 1) := by decide +kernel
theorem dX11_isBarred_10 : decode cX11_isBarred 10 = .ok (.iload_n 1, 1) := by decide +kernel
theorem dX11_isBarred_11 : decode cX11_isBarred 11 = .ok (.iload_n 2, 1) := by decide +kernel
theorem dX11_isBarred_12 : decode cX11_isBarred 12 = .ok (.invokevirtual 270, 3) := by decide +kernel
theorem dX11_isBarred_15 : decode cX11_isBarred 15 = .ok (.ireturn, 1) := by decide +kernel
theorem dX11_isBarred_16 : decode cX11_isBarred 16 = .ok (.iconst 0, 1) := by decide +kernel
theorem dX11_isBarred_17 : decode cX11_isBarred 17 = .ok (.istore_n 3, 1) := by decide +kernel
theorem dX11_isBarred_18 : decode cX11_isBarred 18 = .ok (.iconst 0, 1) := by decide +kernel
theorem dX11_isBarred_19 : decode cX11_isBarred 19 = .ok (.istore 4, 2) := by decide +kernel
theorem dX11_isBarred_21 : decode cX11_isBarred 21 = .ok (.iload 4, 2) := by decide +kernel
theorem dX11_isBarred_23 : decode cX11_isBarred 23 = .ok (.aload_n 0, 1) := by decide +kernel
theorem dX11_isBarred_24 : decode cX11_isBarred 24 = .ok (.getfield 13, 3) := by decide +kernel
theorem dX11_isBarred_27 : decode cX11_isBarred 27 = .ok (.sipush 505, 3) := by decide +kernel
theorem dX11_isBarred_30 : decode cX11_isBarred 30 = .ok (.iaload, 1) := by decide +kernel
theorem dX11_isBarred_31 : decode cX11_isBarred 31 = .ok (.if_icmp .ge 46, 3) := by decide +kernel
theorem dX11_isBarred_34 : decode cX11_isBarred 34 = .ok (.iload_n 3, 1) := by decide +kernel
theorem dX11_isBarred_35 : decode cX11_isBarred 35 = .ok (.ifCond .ne 42, 3) := by decide +kernel
theorem dX11_isBarred_38 : decode cX11_isBarred 38 = .ok (.aload_n 0, 1) := by decide +kernel
theorem dX11_isBarred_39 : decode cX11_isBarred 39 = .ok (.getfield 13, 3) := by decide +kernel
theorem dX11_isBarred_42 : decode cX11_isBarred 42 = .ok (.sipush 506, 3) := by decide +kernel
theorem dX11_isBarred_45 : decode cX11_isBarred 45 = .ok (.iconst 3, 1) := by decide +kernel
theorem dX11_isBarred_46 : decode cX11_isBarred 46 = .ok (.iload 4, 2) := by decide +kernel
theorem dX11_isBarred_48 : decode cX11_isBarred 48 = .ok (.imul, 1) := by decide +kernel
theorem dX11_isBarred_49 : decode cX11_isBarred 49 = .ok (.iadd, 1) := by decide +kernel
theorem dX11_isBarred_50 : decode cX11_isBarred 50 = .ok (.iaload, 1) := by decide +kernel
theorem dX11_isBarred_51 : decode cX11_isBarred 51 = .ok (.ifCond .ge 18, 3) := by decide +kernel
theorem dX11_isBarred_54 : decode cX11_isBarred 54 = .ok (.aload_n 0, 1) := by decide +kernel
theorem dX11_isBarred_55 : decode cX11_isBarred 55 = .ok (.iload 4, 2) := by decide +kernel
theorem dX11_isBarred_57 : decode cX11_isBarred 57 = .ok (.iload_n 1, 1) := by decide +kernel
theorem dX11_isBarred_58 : decode cX11_isBarred 58 = .ok (.iload_n 2, 1) := by decide +kernel
theorem dX11_isBarred_59 : decode cX11_isBarred 59 = .ok (.invokevirtual 277, 3) := by decide +kernel
theorem dX11_isBarred_62 : decode cX11_isBarred 62 = .ok (.ifCond .eq 7, 3) := by decide +kernel
theorem dX11_isBarred_65 : decode cX11_isBarred 65 = .ok (.iconst 1, 1) := by decide +kernel
theorem dX11_isBarred_66 : decode cX11_isBarred 66 = .ok (.goto 4, 3) := by decide +kernel
theorem dX11_isBarred_69 : decode cX11_isBarred 69 = .ok (.iconst 0, 1) := by decide +kernel
theorem dX11_isBarred_70 : decode cX11_isBarred 70 = .ok (.istore_n 3, 1) := by decide +kernel
theorem dX11_isBarred_71 : decode cX11_isBarred 71 = .ok (.iinc 4 1, 3) := by decide +kernel
theorem dX11_isBarred_74 : decode cX11_isBarred 74 = .ok (.goto (-53), 3) := by decide +kernel
theorem dX11_isBarred_77 : decode cX11_isBarred 77 = .ok (.iload_n 3, 1) := by decide +kernel
theorem dX11_isBarred_78 : decode cX11_isBarred 78 = .ok (.ireturn, 1) := by decide +kernel
set_option maxHeartbeats 4000000 in
set_option maxRecDepth 100000 in
/-- reference: isBarred -/
theorem r_isBarred (l : Launch) (D : va_G) (cI cJ cB cC : ClassId) (h : Nat) (th : Int32) (aw : Nat) (ai : Nat) (ab : Nat) (ac : Nat) (hi : Int32) (re : Int32) (aP : Nat) (ta : Int32) (po : Int32) (en : Int32) (be : Int32) (de : Int32) (fa : Int32) (a5 : Nat) (sp : Int32) (av : Nat) (an : Nat) (ak : Nat) (ne : Int32) (aW : Nat) (aC : Nat) (ag : Nat) (aT : Nat) (aN : Nat) (aF : Nat) (fw : Nat → Int32) (fv : Nat → Int32) (mm : Int32) (b : Int32) (sz : Nat) (H_mm : Rg mm 0 9) (H_b : Rg b 0 11) (H_fw_W : wW fw) (H_fw_L : wL fw) : Met l yX11_isBarred kwX11_isBarred ({ frames := 5, cells := 0, slots := 0, locals := 120 } : Room) (kPre D (kT cI cJ cB cC) sz [(h, oX11 th aw ai ab ac hi re aP ta po en be de fa a5 sp av an ak ne aW aC ag aT aN aF), (aw, .inl (cI, 2179, .inl fw)), (av, .inl (cI, 400, .inl fv))] [.ref h, .int mm, .int b]) (va_Qi (fun (r : Int32) (f0_ : (Nat → Int32)) => Rg r 0 1) (fun (f0_ : (Nat → Int32)) (t : State) => kB D (kT cI cJ cB cC) (va_A [(h, oX11 th aw ai ab ac hi re aP ta po en be de fa a5 sp av an ak ne aW aC ag aT aN aF), (aw, .inl (cI, 2179, .inl fw)), (av, .inl (cI, 400, .inl fv))] sz) [(h, oX11 th aw ai ab ac hi re aP ta po en be de fa a5 sp av an ak ne aW aC ag aT aN aF), (aw, .inl (cI, 2179, .inl fw)), (av, .inl (cI, 400, .inl f0_))] t) (va_A [(h, oX11 th aw ai ab ac hi re aP ta po en be de fa a5 sp av an ak ne aW aC ag aT aN aF), (aw, .inl (cI, 2179, .inl fw)), (av, .inl (cI, 400, .inl fv))] sz)) 0 0 (va_A [(h, oX11 th aw ai ab ac hi re aP ta po en be de fa a5 sp av an ak ne aW aC ag aT aN aF), (aw, .inl (cI, 2179, .inl fw)), (av, .inl (cI, 400, .inl fv))] sz) := by
  refine Met.ofW (cc := cX11_isBarred) (maxL := 5) (ret := (some .boolean)) (by decide) rfl ?_
  intro p e s m args below meth c s₁ B hml hv
  obtain ⟨rfl, hsz, hN, hE, hP, hK, hD0⟩ := hv
  have hx := B.exec
  have hb := B.bytes
  have hr := B.returns
  have hts := fun (w : Cond) (h : w ∈ kG) => atoms_spec (ws := kwX11_isBarred) B.pre w (List.mem_cons_of_mem _ h)
  have hown : s.vm.findClass RX11 = some m.cls := findClass_of_methodNamed B.named
  subst hsz
  have hD := hD0.self (sz := s.heap.size)
  generalize hAe : va_A [(h, oX11 th aw ai ab ac hi re aP ta po en be de fa a5 sp av an ak ne aW aC ag aT aN aF), (aw, .inl (cI, 2179, .inl fw)), (av, .inl (cI, 400, .inl fv))] s.heap.size = A at hD hE ⊢
  have hA : ∀ q : Nat, s.heap.size ≤ q → A q := fun q h => by rw [← hAe]; exact Or.inr h
  have hl := lv_entry ([.ref h, .int mm, .int b]) (n := 5) (Nat.le_of_ble_eq_true rfl)
  rw [lg_entry_eq]
  generalize (lg_sl ([.ref h, .int mm, .int b]) ++ List.replicate (5 - (lg_sl ([.ref h, .int mm, .int b])).length) Slot.unset).toArray = ls at hl ⊢
  have hl : lv_has ls 5 [(0, .ref h), (1, .int mm), (2, .int b)] := hl
  obtain ⟨H, hH0⟩ : ∃ H, H = s.heap := ⟨_, rfl⟩
  have hS : va_S A s.heap H [] := by rw [hH0]; exact va_S.rf
  have hP : va_P D vwCl [(h, oX11 th aw ai ab ac hi re aP ta po en be de fa a5 sp av an ak ne aW aC ag aT aN aF), (aw, .inl (cI, 2179, .inl fw)), (av, .inl (cI, 400, .inl fv))] H := by rw [hH0]; exact hP
  refine kHeap hH0 ?_
  clear hH0
  refine lv_aload_n hx hb dX11_isBarred_0 rfl (lv_at hl 0 rfl) ?_
  refine va_get (D := D) (ci := 10) (v := .ref aw) (C := RX11) (T := TX11) (N := 26) hx hb hts iG_X11 hown hK hP 0 rfl rfl 1 (by decide) (hts _ w5_3) (fun _ h9 => h9) rfl dX11_isBarred_1 ?_
  refine lv_iconst (v := 3) hx hb dX11_isBarred_4 (by decide) ?_
  refine va_iald hx hb hK hP 1 0 rfl rfl (rg_in (rg_lit (n := 3) (by decide)) (by decide)) dX11_isBarred_5 ?_
  refine lv_topi (fun x1 ex1 => ?_)
  refine lv_if_ne (tgt := 16) hx hb dX11_isBarred_6 (by decide) (fun c2 => ?_) (fun c2 => ?_)
  · skip
    refine lv_iconst (v := 0) hx hb dX11_isBarred_16 (by decide) ?_
    refine lv_istore_n (lv' := [(3, .int 0), (0, .ref h), (1, .int mm), (2, .int b)]) hx hb dX11_isBarred_17 rfl hl (by decide) rfl (fun ls hl => ?_)
    refine lv_iconst (v := 0) hx hb dX11_isBarred_18 (by decide) ?_
    refine lv_istore (lv' := [(4, .int 0), (3, .int 0), (0, .ref h), (1, .int mm), (2, .int b)]) hx hb dX11_isBarred_19 hl (by decide) rfl (fun ls hl => ?_)
    refine k_loop (hd := 21) (fun (u : Int32 × Int32 × (Nat → Int32)) => match u with | (y470, y471, g472) => (12 - (y470).toInt).toNat) (fun (u : Int32 × Int32 × (Nat → Int32)) (H : Heap) (locs : List Loc) (ls : Array Slot) => match u with | (y470, y471, g472) => Rg y470 0 12 ∧ Rg y471 0 1 ∧ va_P D vwCl [(h, oX11 th aw ai ab ac hi re aP ta po en be de fa a5 sp av an ak ne aW aC ag aT aN aF), (aw, .inl (cI, 2179, .inl fw)), (av, .inl (cI, 400, .inl g472))] H ∧ va_D A [(h, oX11 th aw ai ab ac hi re aP ta po en be de fa a5 sp av an ak ne aW aC ag aT aN aF), (aw, .inl (cI, 2179, .inl fw)), (av, .inl (cI, 400, .inl g472))] ∧ va_S A s.heap H locs ∧ lv_has ls 5 [(4, .int y470), (3, .int y471), (0, .ref h), (1, .int mm), (2, .int b)]) ((0 : Int32), (0 : Int32), fv) ⟨(rg_w (rg_lit (n := 0) (by decide)) (by decide)), (rg_w (rg_lit (n := 0) (by decide)) (by decide)), hP.sub (ws' := [(h, oX11 th aw ai ab ac hi re aP ta po en be de fa a5 sp av an ak ne aW aC ag aT aN aF), (aw, .inl (cI, 2179, .inl fw)), (av, .inl (cI, 400, .inl fv))]) [0, 1, 2] rfl, hD.sub (ws' := [(h, oX11 th aw ai ab ac hi re aP ta po en be de fa a5 sp av an ak ne aW aC ag aT aN aF), (aw, .inl (cI, 2179, .inl fw)), (av, .inl (cI, 400, .inl fv))]) [0, 1, 2] (by decide) rfl, hS, lv_sub (l' := [(4, .int 0), (3, .int 0), (0, .ref h), (1, .int mm), (2, .int b)]) hl [0, 1, 2, 3, 4] rfl⟩ (fun u H locs ls hI ih473 => ?_)
    clear hP hD hS hl
    obtain ⟨y470, y471, g472⟩ := u
    obtain ⟨hy470, hy471, hP, hD, hS, hl⟩ := hI
    have hP : va_P D vwCl [(h, oX11 th aw ai ab ac hi re aP ta po en be de fa a5 sp av an ak ne aW aC ag aT aN aF), (aw, .inl (cI, 2179, .inl fw)), (av, .inl (cI, 400, .inl g472))] H := hP
    have hD : va_D A [(h, oX11 th aw ai ab ac hi re aP ta po en be de fa a5 sp av an ak ne aW aC ag aT aN aF), (aw, .inl (cI, 2179, .inl fw)), (av, .inl (cI, 400, .inl g472))] := hD
    have hl : lv_has ls 5 [(4, .int y470), (3, .int y471), (0, .ref h), (1, .int mm), (2, .int b)] := hl
    refine lv_iload hx hb dX11_isBarred_21 (lv_at hl 0 rfl) ?_
    refine lv_aload_n hx hb dX11_isBarred_23 rfl (lv_at hl 2 rfl) ?_
    refine va_get (D := D) (ci := 10) (v := .ref aw) (C := RX11) (T := TX11) (N := 26) hx hb hts iG_X11 hown hK hP 0 rfl rfl 1 (by decide) (hts _ w5_3) (fun _ h9 => h9) rfl dX11_isBarred_24 ?_
    refine lv_sipush (v := 505) hx hb dX11_isBarred_27 (by decide) ?_
    refine va_iald hx hb hK hP 1 0 rfl rfl (rg_in (rg_lit (n := 505) (by decide)) (by decide)) dX11_isBarred_30 ?_
    refine lv_topi (fun x474 ex474 => ?_)
    have k475 : Rg x474 0 12 := wL_505 H_fw_L ex474
    refine k_join (hd := 77) (cells2 := 0) (slots2 := 0) (fun (_ : Unit) => []) (fun (_ : Unit) (H : Heap) (locs : List Loc) (ls : Array Slot) => va_P D vwCl [(h, oX11 th aw ai ab ac hi re aP ta po en be de fa a5 sp av an ak ne aW aC ag aT aN aF), (aw, .inl (cI, 2179, .inl fw)), (av, .inl (cI, 400, .inl g472))] H ∧ va_D A [(h, oX11 th aw ai ab ac hi re aP ta po en be de fa a5 sp av an ak ne aW aC ag aT aN aF), (aw, .inl (cI, 2179, .inl fw)), (av, .inl (cI, 400, .inl g472))] ∧ va_S A s.heap H locs ∧ lv_has ls 5 [(4, .int y470), (3, .int y471), (0, .ref h), (1, .int mm), (2, .int b)]) (fun u H locs ls hI => ?_) (fun hJ77 => ?_)
    · skip
      clear hP hD hS hl
      obtain ⟨hP, hD, hS, hl⟩ := hI
      have hP : va_P D vwCl [(h, oX11 th aw ai ab ac hi re aP ta po en be de fa a5 sp av an ak ne aW aC ag aT aN aF), (aw, .inl (cI, 2179, .inl fw)), (av, .inl (cI, 400, .inl g472))] H := hP
      have hD : va_D A [(h, oX11 th aw ai ab ac hi re aP ta po en be de fa a5 sp av an ak ne aW aC ag aT aN aF), (aw, .inl (cI, 2179, .inl fw)), (av, .inl (cI, 400, .inl g472))] := hD
      have hl : lv_has ls 5 [(4, .int y470), (3, .int y471), (0, .ref h), (1, .int mm), (2, .int b)] := hl
      refine lv_iload_n hx hb dX11_isBarred_77 rfl (lv_at hl 1 rfl) ?_
      have hP9 := hP.sub (ws' := [(h, oX11 th aw ai ab ac hi re aP ta po en be de fa a5 sp av an ak ne aW aC ag aT aN aF), (aw, .inl (cI, 2179, .inl fw)), (av, .inl (cI, 400, .inl g472))]) [0, 1, 2] rfl
      have hD9 := hD.sub (ws' := [(h, oX11 th aw ai ab ac hi re aP ta po en be de fa a5 sp av an ak ne aW aC ag aT aN aF), (aw, .inl (cI, 2179, .inl fw)), (av, .inl (cI, 400, .inl g472))]) [0, 1, 2] (by decide) rfl
      exact W.zret (v := y471) hx hb hr (rg_bool hy471) (fun t ht hW => ⟨⟨y471, (g472), rfl, hy471, by rw [ht]; exact hP9, va_K.moved hW.alike hK, hD9⟩, hS.F ht⟩) hS.2.2 dX11_isBarred_78
    refine lv_icmp_ge (tgt := 77) hx hb dX11_isBarred_31 (by decide) (fun c501 => ?_) (fun c501 => ?_)
    · skip
      exact hJ77 () _ _ _ ⟨hP.sub (ws' := [(h, oX11 th aw ai ab ac hi re aP ta po en be de fa a5 sp av an ak ne aW aC ag aT aN aF), (aw, .inl (cI, 2179, .inl fw)), (av, .inl (cI, 400, .inl g472))]) [0, 1, 2] rfl, hD.sub (ws' := [(h, oX11 th aw ai ab ac hi re aP ta po en be de fa a5 sp av an ak ne aW aC ag aT aN aF), (aw, .inl (cI, 2179, .inl fw)), (av, .inl (cI, 400, .inl g472))]) [0, 1, 2] (by decide) rfl, hS, lv_sub (l' := [(4, .int y470), (3, .int y471), (0, .ref h), (1, .int mm), (2, .int b)]) hl [0, 1, 2, 3, 4] rfl⟩
    · skip
      have k502 : Rg y470 0 11 := rg_l1 (nleI c501) hy470 k475 (by decide)
      have k503 : Rg x474 1 12 := rg_l2 (nleI c501) hy470 k475 (by decide)
      refine lv_iload_n hx hb dX11_isBarred_34 rfl (lv_at hl 1 rfl) ?_
      refine lv_if_ne (tgt := 77) hx hb dX11_isBarred_35 (by decide) (fun c504 => ?_) (fun c504 => ?_)
      · skip
        have k505 : Rg y471 1 1 := rg_n1 (neI c504) hy471 (rg_lit (n := 0) (by decide)) (by decide)
        exact hJ77 () _ _ _ ⟨hP.sub (ws' := [(h, oX11 th aw ai ab ac hi re aP ta po en be de fa a5 sp av an ak ne aW aC ag aT aN aF), (aw, .inl (cI, 2179, .inl fw)), (av, .inl (cI, 400, .inl g472))]) [0, 1, 2] rfl, hD.sub (ws' := [(h, oX11 th aw ai ab ac hi re aP ta po en be de fa a5 sp av an ak ne aW aC ag aT aN aF), (aw, .inl (cI, 2179, .inl fw)), (av, .inl (cI, 400, .inl g472))]) [0, 1, 2] (by decide) rfl, hS, lv_sub (l' := [(4, .int y470), (3, .int y471), (0, .ref h), (1, .int mm), (2, .int b)]) hl [0, 1, 2, 3, 4] rfl⟩
      · skip
        have k506 : Rg y471 0 0 := rg_q1 (eqI c504) hy471 (rg_lit (n := 0) (by decide)) (by decide)
        refine lv_aload_n hx hb dX11_isBarred_38 rfl (lv_at hl 2 rfl) ?_
        refine va_get (D := D) (ci := 10) (v := .ref aw) (C := RX11) (T := TX11) (N := 26) hx hb hts iG_X11 hown hK hP 0 rfl rfl 1 (by decide) (hts _ w5_3) (fun _ h9 => h9) rfl dX11_isBarred_39 ?_
        refine lv_sipush (v := 506) hx hb dX11_isBarred_42 (by decide) ?_
        refine lv_iconst (v := 3) hx hb dX11_isBarred_45 (by decide) ?_
        refine lv_iload hx hb dX11_isBarred_46 (lv_at hl 0 rfl) ?_
        refine lv_imul hx hb dX11_isBarred_48 ?_
        refine lv_topi (fun x507 ex507 => ?_)
        have tx507 : x507.toInt = 3 * y470.toInt := ti_mul ex507 (rg_lit (n := 3) (by decide)) k502 (by decide) (by decide) rfl
        have k508 : Rg x507 0 33 := rg_mul ex507 (rg_lit (n := 3) (by decide)) k502 (by decide)
        refine lv_iadd hx hb dX11_isBarred_49 ?_
        refine lv_topi (fun x509 ex509 => ?_)
        have tx509 : x509.toInt = 506 + x507.toInt := ti_add ex509 (rg_lit (n := 506) (by decide)) k508 (by decide) (by decide) rfl
        have k510 : Rg x509 506 539 := rg_add ex509 (rg_lit (n := 506) (by decide)) k508 (by decide)
        refine va_iald hx hb hK hP 1 0 rfl rfl (rg_in k510 (by decide)) dX11_isBarred_50 ?_
        refine lv_topi (fun x511 ex511 => ?_)
        refine k_join (hd := 69) (cells2 := 0) (slots2 := 0) (fun (g522 : (Nat → Int32)) => []) (fun (g522 : (Nat → Int32)) (H : Heap) (locs : List Loc) (ls : Array Slot) => va_P D vwCl [(h, oX11 th aw ai ab ac hi re aP ta po en be de fa a5 sp av an ak ne aW aC ag aT aN aF), (aw, .inl (cI, 2179, .inl fw)), (av, .inl (cI, 400, .inl g522))] H ∧ va_D A [(h, oX11 th aw ai ab ac hi re aP ta po en be de fa a5 sp av an ak ne aW aC ag aT aN aF), (aw, .inl (cI, 2179, .inl fw)), (av, .inl (cI, 400, .inl g522))] ∧ va_S A s.heap H locs ∧ lv_has ls 5 [(4, .int y470), (3, .int y471), (0, .ref h), (1, .int mm), (2, .int b)]) (fun u H locs ls hI => ?_) (fun hJ69 => ?_)
        · skip
          clear hP hD hS hl
          obtain ⟨g522, rfl⟩ : ∃ z, z = u := ⟨_, rfl⟩
          obtain ⟨hP, hD, hS, hl⟩ := hI
          have hP : va_P D vwCl [(h, oX11 th aw ai ab ac hi re aP ta po en be de fa a5 sp av an ak ne aW aC ag aT aN aF), (aw, .inl (cI, 2179, .inl fw)), (av, .inl (cI, 400, .inl g522))] H := hP
          have hD : va_D A [(h, oX11 th aw ai ab ac hi re aP ta po en be de fa a5 sp av an ak ne aW aC ag aT aN aF), (aw, .inl (cI, 2179, .inl fw)), (av, .inl (cI, 400, .inl g522))] := hD
          have hl : lv_has ls 5 [(4, .int y470), (3, .int y471), (0, .ref h), (1, .int mm), (2, .int b)] := hl
          refine lv_iconst (v := 0) hx hb dX11_isBarred_69 (by decide) ?_
          refine lv_istore_n (lv' := [(3, .int 0), (4, .int y470), (0, .ref h), (1, .int mm), (2, .int b)]) hx hb dX11_isBarred_70 rfl hl (by decide) rfl (fun ls hl => ?_)
          obtain ⟨x523, ex523⟩ : ∃ y : Int32, y = y470 + 1 := ⟨_, rfl⟩
          refine lv_iinc (v := x523) (lv' := [(4, .int x523), (3, .int 0), (0, .ref h), (1, .int mm), (2, .int b)]) hx hb dX11_isBarred_71 hl (k := 1) rfl (by rw [ex523]; rfl) (by decide) rfl (fun ls hl => ?_)
          have k524 : Rg x523 1 12 := rg_add ex523 k502 (rg_lit (n := 1) (by decide)) (by decide)
          refine lv_goto (tgt := 21) hx hb dX11_isBarred_74 (by decide) ?_
          exact ih473 (x523, (0 : Int32), g522) _ _ _ (by show (12 - (x523).toInt).toNat < (12 - (y470).toInt).toNat; exact mu_up ex523 k502 k524 (by decide)) ⟨(rg_w k524 (by decide)), (rg_w (rg_lit (n := 0) (by decide)) (by decide)), hP.sub (ws' := [(h, oX11 th aw ai ab ac hi re aP ta po en be de fa a5 sp av an ak ne aW aC ag aT aN aF), (aw, .inl (cI, 2179, .inl fw)), (av, .inl (cI, 400, .inl g522))]) [0, 1, 2] rfl, hD.sub (ws' := [(h, oX11 th aw ai ab ac hi re aP ta po en be de fa a5 sp av an ak ne aW aC ag aT aN aF), (aw, .inl (cI, 2179, .inl fw)), (av, .inl (cI, 400, .inl g522))]) [0, 1, 2] (by decide) rfl, hS, lv_sub (l' := [(4, .int x523), (3, .int 0), (0, .ref h), (1, .int mm), (2, .int b)]) hl [0, 1, 2, 3, 4] rfl⟩
        refine lv_if_ge (tgt := 69) hx hb dX11_isBarred_51 (by decide) (fun c525 => ?_) (fun c525 => ?_)
        · skip
          have k526 : Rg x511 0 2147483647 := rg_e2 (leI c525) (rg_lit (n := 0) (by decide)) (rg_any x511) (by decide)
          exact hJ69 (g472) _ _ _ ⟨hP.sub (ws' := [(h, oX11 th aw ai ab ac hi re aP ta po en be de fa a5 sp av an ak ne aW aC ag aT aN aF), (aw, .inl (cI, 2179, .inl fw)), (av, .inl (cI, 400, .inl g472))]) [0, 1, 2] rfl, hD.sub (ws' := [(h, oX11 th aw ai ab ac hi re aP ta po en be de fa a5 sp av an ak ne aW aC ag aT aN aF), (aw, .inl (cI, 2179, .inl fw)), (av, .inl (cI, 400, .inl g472))]) [0, 1, 2] (by decide) rfl, hS, lv_sub (l' := [(4, .int y470), (3, .int y471), (0, .ref h), (1, .int mm), (2, .int b)]) hl [0, 1, 2, 3, 4] rfl⟩
        · skip
          have k527 : Rg x511 (-2147483648) (-1) := rg_l1 (nleI c525) (rg_any x511) (rg_lit (n := 0) (by decide)) (by decide)
          refine lv_aload_n hx hb dX11_isBarred_54 rfl (lv_at hl 2 rfl) ?_
          refine lv_iload hx hb dX11_isBarred_55 (lv_at hl 0 rfl) ?_
          refine lv_iload_n hx hb dX11_isBarred_57 rfl (lv_at hl 3 rfl) ?_
          refine lv_iload_n hx hb dX11_isBarred_58 rfl (lv_at hl 4 rfl) ?_
          refine kcalli (wc := [(h, oX11 th aw ai ab ac hi re aP ta po en be de fa a5 sp av an ak ne aW aC ag aT aN aF), (aw, .inl (cI, 2179, .inl fw)), (av, .inl (cI, 400, .inl g472))]) (wr := []) hP hD hS hA [0, 1, 2] [] rfl rfl (by decide) (by decide) (by decide) (fun hPc hDc hFc => va_runV (As := [.int y470, .int mm, .int b]) (rest := []) ⟨hx, hb, hml, hown, hts⟩ (r_holdsLine l D cI cJ cB cC h th aw ai ab ac hi re aP ta po en be de fa a5 sp av an ak ne aW aC ag aT aN aF fw g472 y470 mm b H.size H_mm H_b k502 H_fw_W H_fw_L (lt_505 ex474 (nleI c501))) (cwV 3 hts gX11_isBarred_X11_holdsLine rfl rfl rfl ⟨rfl, hdX11_holdsLine⟩ ⟨Nat.le_of_ble_eq_true rfl, Nat.le_of_ble_eq_true rfl⟩) ⟨kBlind, va_recv hK hPc (ci := 10) (q0 := 0) rfl rfl, fun U hU hW => ⟨rfl, by rw [hU], hN.warm hW, hE.pass hS hFc hW hU, by rw [hU]; exact hPc, va_K.moved hW.alike hK, hDc⟩⟩ rfl rfl hl.1 rfl (lv_room (Nat.le_of_ble_eq_true rfl)) dX11_isBarred_59 ⟨Nat.le_of_ble_eq_true rfl, Nat.le_of_ble_eq_true rfl⟩) (fun r528 u H locs hw hP hD hS => ?_)
          obtain ⟨g529, rfl⟩ : ∃ z, z = u := ⟨_, rfl⟩
          have hP : va_P D vwCl [(h, oX11 th aw ai ab ac hi re aP ta po en be de fa a5 sp av an ak ne aW aC ag aT aN aF), (aw, .inl (cI, 2179, .inl fw)), (av, .inl (cI, 400, .inl g529))] H := hP
          have hD : va_D A [(h, oX11 th aw ai ab ac hi re aP ta po en be de fa a5 sp av an ak ne aW aC ag aT aN aF), (aw, .inl (cI, 2179, .inl fw)), (av, .inl (cI, 400, .inl g529))] := hD
          have k530 := hw
          refine lv_if_eq (tgt := 69) hx hb dX11_isBarred_62 (by decide) (fun c531 => ?_) (fun c531 => ?_)
          · skip
            have k532 : Rg r528 0 0 := rg_q1 (eqI c531) k530 (rg_lit (n := 0) (by decide)) (by decide)
            exact hJ69 (g529) _ _ _ ⟨hP.sub (ws' := [(h, oX11 th aw ai ab ac hi re aP ta po en be de fa a5 sp av an ak ne aW aC ag aT aN aF), (aw, .inl (cI, 2179, .inl fw)), (av, .inl (cI, 400, .inl g529))]) [0, 1, 2] rfl, hD.sub (ws' := [(h, oX11 th aw ai ab ac hi re aP ta po en be de fa a5 sp av an ak ne aW aC ag aT aN aF), (aw, .inl (cI, 2179, .inl fw)), (av, .inl (cI, 400, .inl g529))]) [0, 1, 2] (by decide) rfl, hS, lv_sub (l' := [(4, .int y470), (3, .int y471), (0, .ref h), (1, .int mm), (2, .int b)]) hl [0, 1, 2, 3, 4] rfl⟩
          · skip
            have k533 : Rg r528 1 1 := rg_n1 (neI c531) k530 (rg_lit (n := 0) (by decide)) (by decide)
            refine lv_iconst (v := 1) hx hb dX11_isBarred_65 (by decide) ?_
            refine lv_goto (tgt := 70) hx hb dX11_isBarred_66 (by decide) ?_
            refine lv_istore_n (lv' := [(3, .int 1), (4, .int y470), (0, .ref h), (1, .int mm), (2, .int b)]) hx hb dX11_isBarred_70 rfl hl (by decide) rfl (fun ls hl => ?_)
            obtain ⟨x534, ex534⟩ : ∃ y : Int32, y = y470 + 1 := ⟨_, rfl⟩
            refine lv_iinc (v := x534) (lv' := [(4, .int x534), (3, .int 1), (0, .ref h), (1, .int mm), (2, .int b)]) hx hb dX11_isBarred_71 hl (k := 1) rfl (by rw [ex534]; rfl) (by decide) rfl (fun ls hl => ?_)
            have k535 : Rg x534 1 12 := rg_add ex534 k502 (rg_lit (n := 1) (by decide)) (by decide)
            refine lv_goto (tgt := 21) hx hb dX11_isBarred_74 (by decide) ?_
            exact ih473 (x534, (1 : Int32), g529) _ _ _ (by show (12 - (x534).toInt).toNat < (12 - (y470).toInt).toNat; exact mu_up ex534 k502 k535 (by decide)) ⟨(rg_w k535 (by decide)), (rg_w (rg_lit (n := 1) (by decide)) (by decide)), hP.sub (ws' := [(h, oX11 th aw ai ab ac hi re aP ta po en be de fa a5 sp av an ak ne aW aC ag aT aN aF), (aw, .inl (cI, 2179, .inl fw)), (av, .inl (cI, 400, .inl g529))]) [0, 1, 2] rfl, hD.sub (ws' := [(h, oX11 th aw ai ab ac hi re aP ta po en be de fa a5 sp av an ak ne aW aC ag aT aN aF), (aw, .inl (cI, 2179, .inl fw)), (av, .inl (cI, 400, .inl g529))]) [0, 1, 2] (by decide) rfl, hS, lv_sub (l' := [(4, .int x534), (3, .int 1), (0, .ref h), (1, .int mm), (2, .int b)]) hl [0, 1, 2, 3, 4] rfl⟩
  · skip
    have k536 : Rg x1 0 0 := rg_q1 (eqI c2) (rg_any x1) (rg_lit (n := 0) (by decide)) (by decide)
    refine lv_aload_n hx hb dX11_isBarred_9 rfl (lv_at hl 0 rfl) ?_
    refine lv_iload_n hx hb dX11_isBarred_10 rfl (lv_at hl 1 rfl) ?_
    refine lv_iload_n hx hb dX11_isBarred_11 rfl (lv_at hl 2 rfl) ?_
    refine kpurei (wc := [(h, oX11 th aw ai ab ac hi re aP ta po en be de fa a5 sp av an ak ne aW aC ag aT aN aF), (aw, .inl (cI, 2179, .inl fw))]) hP hD hS hA [0, 1] rfl (by decide) (fun hPc hDc hFc => va_runV (As := [.int mm, .int b]) (rest := []) ⟨hx, hb, hml, hown, hts⟩ (r_isNextToLast l D cI cJ cB cC h th aw ai ab ac hi re aP ta po en be de fa a5 sp av an ak ne aW aC ag aT aN aF fw mm b H.size H_mm H_b H_fw_W) (cwV 2 hts gX11_isBarred_X11_isNextToLast rfl rfl rfl ⟨rfl, hdX11_isNextToLast⟩ ⟨Nat.le_of_ble_eq_true rfl, Nat.le_of_ble_eq_true rfl⟩) ⟨kBlind, va_recv hK hPc (ci := 10) (q0 := 0) rfl rfl, fun U hU hW => ⟨rfl, by rw [hU], hN.warm hW, hE.pass hS hFc hW hU, by rw [hU]; exact hPc, va_K.moved hW.alike hK, hDc⟩⟩ rfl rfl hl.1 rfl (lv_room (Nat.le_of_ble_eq_true rfl)) dX11_isBarred_12 ⟨Nat.le_of_ble_eq_true rfl, Nat.le_of_ble_eq_true rfl⟩) (fun r537 u H locs hw hP hS => ?_)
    rcases hw with rfl | rfl
    · skip
      have hP9 := hP.sub (ws' := [(h, oX11 th aw ai ab ac hi re aP ta po en be de fa a5 sp av an ak ne aW aC ag aT aN aF), (aw, .inl (cI, 2179, .inl fw)), (av, .inl (cI, 400, .inl fv))]) [0, 1, 2] rfl
      have hD9 := hD.sub (ws' := [(h, oX11 th aw ai ab ac hi re aP ta po en be de fa a5 sp av an ak ne aW aC ag aT aN aF), (aw, .inl (cI, 2179, .inl fw)), (av, .inl (cI, 400, .inl fv))]) [0, 1, 2] (by decide) rfl
      exact W.zret (v := 0) hx hb hr (by decide) (fun t ht hW => ⟨⟨0, (fv), rfl, (rg_w (rg_lit (n := 0) (by decide)) (by decide)), by rw [ht]; exact hP9, va_K.moved hW.alike hK, hD9⟩, hS.F ht⟩) hS.2.2 dX11_isBarred_15
    · skip
      have hP9 := hP.sub (ws' := [(h, oX11 th aw ai ab ac hi re aP ta po en be de fa a5 sp av an ak ne aW aC ag aT aN aF), (aw, .inl (cI, 2179, .inl fw)), (av, .inl (cI, 400, .inl fv))]) [0, 1, 2] rfl
      have hD9 := hD.sub (ws' := [(h, oX11 th aw ai ab ac hi re aP ta po en be de fa a5 sp av an ak ne aW aC ag aT aN aF), (aw, .inl (cI, 2179, .inl fw)), (av, .inl (cI, 400, .inl fv))]) [0, 1, 2] (by decide) rfl
      exact W.zret (v := 1) hx hb hr (by decide) (fun t ht hW => ⟨⟨1, (fv), rfl, (rg_w (rg_lit (n := 1) (by decide)) (by decide)), by rw [ht]; exact hP9, va_K.moved hW.alike hK, hD9⟩, hS.F ht⟩) hS.2.2 dX11_isBarred_15

def kwX11_costOf : List Cond := .code yX11_costOf cX11_costOf 5 (some .int) :: kG
theorem hdX11_costOf : yX11_costOf.cls ≠ "java/lang/invoke/MethodHandle" ∧ yX11_costOf.cls ≠ "java/lang/invoke/VarHandle" ∧ (parseMethodDescriptor yX11_costOf.desc).map (fun d => d.parameters.length) = some 2 := by decide +kernel
theorem gX11_costOf_X11_holdsLine : GoodIn kG (wsV RX11 277 RX11 yX11_holdsLine kwX11_holdsLine) := gK w30_15 (gK w30_16 (gK w30_17 (gK w0_5 (gK w30_18 gGG))))
theorem dX11_costOf_0 : decode cX11_costOf 0 = .ok (.iconst 0, 1) := by decide +kernel
theorem dX11_costOf_1 : decode cX11_costOf 1 = .ok (.istore_n 3, 1) := by decide +kernel
theorem dX11_costOf_2 : decode cX11_costOf 2 = .ok (.iconst 0, 1) := by decide +kernel
theorem dX11_costOf_3 : decode cX11_costOf 3 = .ok (.istore 4, 2) := by decide +kernel
theorem dX11_costOf_5 : decode cX11_costOf 5 = .ok (.aload_n 0, 1) := by decide +kernel
theorem dX11_costOf_6 : decode cX11_costOf 6 = .ok (.getfield 13, 3) := by decide +kernel
theorem dX11_costOf_9 : decode cX11_costOf 9 = .ok (.iconst 3, 1) := by decide +kernel
theorem dX11_costOf_10 : decode cX11_costOf 10 = .ok (.iaload, 1) := by decide +kernel
theorem dX11_costOf_11 : decode cX11_costOf 11 = .ok (.iconst 1, 1) := by decide +kernel
theorem dX11_costOf_12 : decode cX11_costOf 12 = .ok (.if_icmp .ne 69, 3) := by decide +kernel
theorem dX11_costOf_15 : decode cX11_costOf 15 = .ok (.iload 4, 2) := by decide +kernel
theorem dX11_costOf_17 : decode cX11_costOf 17 = .ok (.aload_n 0, 1) := by decide +kernel
theorem dX11_costOf_18 : decode cX11_costOf 18 = .ok (.getfield 13, 3) := by decide +kernel
theorem dX11_costOf_21 : decode cX11_costOf 21 = .ok (.sipush 505, 3) := by decide +kernel
theorem dX11_costOf_24 : decode cX11_costOf 24 = .ok (.iaload, 1) := by decide +kernel
theorem dX11_costOf_25 : decode cX11_costOf 25 = .ok (.if_icmp .ge 56, 3) := by decide +kernel
theorem dX11_costOf_28 : decode cX11_costOf 28 = .ok (.iload_n 3, 1) := by decide +kernel
theorem dX11_costOf_29 : decode cX11_costOf 29 = .ok (.aload_n 0, 1) := by decide +kernel
theorem dX11_costOf_30 : decode cX11_costOf 30 = .ok (.getfield 13, 3) := by decide +kernel
theorem dX11_costOf_33 : decode cX11_costOf 33 = .ok (.sipush 506, 3) := by decide +kernel
theorem dX11_costOf_36 : decode cX11_costOf 36 = .ok (.iconst 3, 1) := by decide +kernel
theorem dX11_costOf_37 : decode cX11_costOf 37 = .ok (.iload 4, 2) := by decide +kernel
theorem dX11_costOf_39 : decode cX11_costOf 39 = .ok (.imul, 1) := by decide +kernel
theorem dX11_costOf_40 : decode cX11_costOf 40 = .ok (.iadd, 1) := by decide +kernel
theorem dX11_costOf_41 : decode cX11_costOf 41 = .ok (.iaload, 1) := by decide +kernel
theorem dX11_costOf_42 : decode cX11_costOf 42 = .ok (.ifCond .lt 30, 3) := by decide +kernel
theorem dX11_costOf_45 : decode cX11_costOf 45 = .ok (.aload_n 0, 1) := by decide +kernel
theorem dX11_costOf_46 : decode cX11_costOf 46 = .ok (.iload 4, 2) := by decide +kernel
theorem dX11_costOf_48 : decode cX11_costOf 48 = .ok (.iload_n 1, 1) := by decide +kernel
theorem dX11_costOf_49 : decode cX11_costOf 49 = .ok (.iload_n 2, 1) := by decide +kernel
theorem dX11_costOf_50 : decode cX11_costOf 50 = .ok (.invokevirtual 277, 3) := by decide +kernel
theorem dX11_costOf_53 : decode cX11_costOf 53 = .ok (.ifCond .eq 19, 3) := by decide +kernel
theorem dX11_costOf_56 : decode cX11_costOf 56 = .ok (.aload_n 0, 1) := by decide +kernel
theorem dX11_costOf_57 : decode cX11_costOf 57 = .ok (.getfield 13, 3) := by decide +kernel
theorem dX11_costOf_60 : decode cX11_costOf 60 = .ok (.sipush 506, 3) := by decide +kernel
theorem dX11_costOf_63 : decode cX11_costOf 63 = .ok (.iconst 3, 1) := by decide +kernel
theorem dX11_costOf_64 : decode cX11_costOf 64 = .ok (.iload 4, 2) := by decide +kernel
theorem dX11_costOf_66 : decode cX11_costOf 66 = .ok (.imul, 1) := by decide +kernel
theorem dX11_costOf_67 : decode cX11_costOf 67 = .ok (.iadd, 1) := by decide +kernel
theorem dX11_costOf_68 : decode cX11_costOf 68 = .ok (.iaload, 1) := by decide +kernel
theorem dX11_costOf_69 : decode cX11_costOf 69 = .ok (.goto 4, 3) := by decide +kernel
theorem dX11_costOf_72 : decode cX11_costOf 72 = .ok (.iconst 0, 1) := by decide +kernel
theorem dX11_costOf_73 : decode cX11_costOf 73 = .ok (.iadd, 1) := by decide +kernel
theorem dX11_costOf_74 : decode cX11_costOf 74 = .ok (.istore_n 3, 1) := by decide +kernel
theorem dX11_costOf_75 : decode cX11_costOf 75 = .ok (.iinc 4 1, 3) := by decide +kernel
theorem dX11_costOf_78 : decode cX11_costOf 78 = .ok (.goto (-73), 3) := by decide +kernel
theorem dX11_costOf_81 : decode cX11_costOf 81 = .ok (.iload_n 3, 1) := by decide +kernel
theorem dX11_costOf_82 : decode cX11_costOf 82 = .ok (.ireturn, 1) := by decide +kernel
set_option maxHeartbeats 4000000 in
set_option maxRecDepth 100000 in
/-- reference: costOf -/
theorem r_costOf (l : Launch) (D : va_G) (cI cJ cB cC : ClassId) (h : Nat) (th : Int32) (aw : Nat) (ai : Nat) (ab : Nat) (ac : Nat) (hi : Int32) (re : Int32) (aP : Nat) (ta : Int32) (po : Int32) (en : Int32) (be : Int32) (de : Int32) (fa : Int32) (a5 : Nat) (sp : Int32) (av : Nat) (an : Nat) (ak : Nat) (ne : Int32) (aW : Nat) (aC : Nat) (ag : Nat) (aT : Nat) (aN : Nat) (aF : Nat) (fw : Nat → Int32) (fv : Nat → Int32) (mm : Int32) (b : Int32) (sz : Nat) (H_mm : Rg mm 0 9) (H_b : Rg b 0 11) (H_fw_W : wW fw) (H_fw_L : wL fw) : Met l yX11_costOf kwX11_costOf ({ frames := 5, cells := 0, slots := 0, locals := 120 } : Room) (kPre D (kT cI cJ cB cC) sz [(h, oX11 th aw ai ab ac hi re aP ta po en be de fa a5 sp av an ak ne aW aC ag aT aN aF), (aw, .inl (cI, 2179, .inl fw)), (av, .inl (cI, 400, .inl fv))] [.ref h, .int mm, .int b]) (va_Qi (fun (r : Int32) (f0_ : (Nat → Int32)) => True) (fun (f0_ : (Nat → Int32)) (t : State) => kB D (kT cI cJ cB cC) (va_A [(h, oX11 th aw ai ab ac hi re aP ta po en be de fa a5 sp av an ak ne aW aC ag aT aN aF), (aw, .inl (cI, 2179, .inl fw)), (av, .inl (cI, 400, .inl fv))] sz) [(h, oX11 th aw ai ab ac hi re aP ta po en be de fa a5 sp av an ak ne aW aC ag aT aN aF), (aw, .inl (cI, 2179, .inl fw)), (av, .inl (cI, 400, .inl f0_))] t) (va_A [(h, oX11 th aw ai ab ac hi re aP ta po en be de fa a5 sp av an ak ne aW aC ag aT aN aF), (aw, .inl (cI, 2179, .inl fw)), (av, .inl (cI, 400, .inl fv))] sz)) 0 0 (va_A [(h, oX11 th aw ai ab ac hi re aP ta po en be de fa a5 sp av an ak ne aW aC ag aT aN aF), (aw, .inl (cI, 2179, .inl fw)), (av, .inl (cI, 400, .inl fv))] sz) := by
  refine Met.ofW (cc := cX11_costOf) (maxL := 5) (ret := (some .int)) (by decide) rfl ?_
  intro p e s m args below meth c s₁ B hml hv
  obtain ⟨rfl, hsz, hN, hE, hP, hK, hD0⟩ := hv
  have hx := B.exec
  have hb := B.bytes
  have hr := B.returns
  have hts := fun (w : Cond) (h : w ∈ kG) => atoms_spec (ws := kwX11_costOf) B.pre w (List.mem_cons_of_mem _ h)
  have hown : s.vm.findClass RX11 = some m.cls := findClass_of_methodNamed B.named
  subst hsz
  have hD := hD0.self (sz := s.heap.size)
  generalize hAe : va_A [(h, oX11 th aw ai ab ac hi re aP ta po en be de fa a5 sp av an ak ne aW aC ag aT aN aF), (aw, .inl (cI, 2179, .inl fw)), (av, .inl (cI, 400, .inl fv))] s.heap.size = A at hD hE ⊢
  have hA : ∀ q : Nat, s.heap.size ≤ q → A q := fun q h => by rw [← hAe]; exact Or.inr h
  have hl := lv_entry ([.ref h, .int mm, .int b]) (n := 5) (Nat.le_of_ble_eq_true rfl)
  rw [lg_entry_eq]
  generalize (lg_sl ([.ref h, .int mm, .int b]) ++ List.replicate (5 - (lg_sl ([.ref h, .int mm, .int b])).length) Slot.unset).toArray = ls at hl ⊢
  have hl : lv_has ls 5 [(0, .ref h), (1, .int mm), (2, .int b)] := hl
  obtain ⟨H, hH0⟩ : ∃ H, H = s.heap := ⟨_, rfl⟩
  have hS : va_S A s.heap H [] := by rw [hH0]; exact va_S.rf
  have hP : va_P D vwCl [(h, oX11 th aw ai ab ac hi re aP ta po en be de fa a5 sp av an ak ne aW aC ag aT aN aF), (aw, .inl (cI, 2179, .inl fw)), (av, .inl (cI, 400, .inl fv))] H := by rw [hH0]; exact hP
  refine kHeap hH0 ?_
  clear hH0
  refine lv_iconst (v := 0) hx hb dX11_costOf_0 (by decide) ?_
  refine lv_istore_n (lv' := [(3, .int 0), (0, .ref h), (1, .int mm), (2, .int b)]) hx hb dX11_costOf_1 rfl hl (by decide) rfl (fun ls hl => ?_)
  refine lv_iconst (v := 0) hx hb dX11_costOf_2 (by decide) ?_
  refine lv_istore (lv' := [(4, .int 0), (3, .int 0), (0, .ref h), (1, .int mm), (2, .int b)]) hx hb dX11_costOf_3 hl (by decide) rfl (fun ls hl => ?_)
  refine k_loop (hd := 5) (fun (u : Int32 × Int32 × (Nat → Int32)) => match u with | (y594, y595, g596) => (12 - (y594).toInt).toNat) (fun (u : Int32 × Int32 × (Nat → Int32)) (H : Heap) (locs : List Loc) (ls : Array Slot) => match u with | (y594, y595, g596) => Rg y594 0 12 ∧ va_P D vwCl [(h, oX11 th aw ai ab ac hi re aP ta po en be de fa a5 sp av an ak ne aW aC ag aT aN aF), (aw, .inl (cI, 2179, .inl fw)), (av, .inl (cI, 400, .inl g596))] H ∧ va_D A [(h, oX11 th aw ai ab ac hi re aP ta po en be de fa a5 sp av an ak ne aW aC ag aT aN aF), (aw, .inl (cI, 2179, .inl fw)), (av, .inl (cI, 400, .inl g596))] ∧ va_S A s.heap H locs ∧ lv_has ls 5 [(4, .int y594), (3, .int y595), (0, .ref h), (1, .int mm), (2, .int b)]) ((0 : Int32), (0 : Int32), fv) ⟨(rg_w (rg_lit (n := 0) (by decide)) (by decide)), hP.sub (ws' := [(h, oX11 th aw ai ab ac hi re aP ta po en be de fa a5 sp av an ak ne aW aC ag aT aN aF), (aw, .inl (cI, 2179, .inl fw)), (av, .inl (cI, 400, .inl fv))]) [0, 1, 2] rfl, hD.sub (ws' := [(h, oX11 th aw ai ab ac hi re aP ta po en be de fa a5 sp av an ak ne aW aC ag aT aN aF), (aw, .inl (cI, 2179, .inl fw)), (av, .inl (cI, 400, .inl fv))]) [0, 1, 2] (by decide) rfl, hS, lv_sub (l' := [(4, .int 0), (3, .int 0), (0, .ref h), (1, .int mm), (2, .int b)]) hl [0, 1, 2, 3, 4] rfl⟩ (fun u H locs ls hI ih597 => ?_)
  clear hP hD hS hl
  obtain ⟨y594, y595, g596⟩ := u
  obtain ⟨hy594, hP, hD, hS, hl⟩ := hI
  have hP : va_P D vwCl [(h, oX11 th aw ai ab ac hi re aP ta po en be de fa a5 sp av an ak ne aW aC ag aT aN aF), (aw, .inl (cI, 2179, .inl fw)), (av, .inl (cI, 400, .inl g596))] H := hP
  have hD : va_D A [(h, oX11 th aw ai ab ac hi re aP ta po en be de fa a5 sp av an ak ne aW aC ag aT aN aF), (aw, .inl (cI, 2179, .inl fw)), (av, .inl (cI, 400, .inl g596))] := hD
  have hl : lv_has ls 5 [(4, .int y594), (3, .int y595), (0, .ref h), (1, .int mm), (2, .int b)] := hl
  refine lv_aload_n hx hb dX11_costOf_5 rfl (lv_at hl 2 rfl) ?_
  refine va_get (D := D) (ci := 10) (v := .ref aw) (C := RX11) (T := TX11) (N := 26) hx hb hts iG_X11 hown hK hP 0 rfl rfl 1 (by decide) (hts _ w5_3) (fun _ h9 => h9) rfl dX11_costOf_6 ?_
  refine lv_iconst (v := 3) hx hb dX11_costOf_9 (by decide) ?_
  refine va_iald hx hb hK hP 1 0 rfl rfl (rg_in (rg_lit (n := 3) (by decide)) (by decide)) dX11_costOf_10 ?_
  refine lv_topi (fun x598 ex598 => ?_)
  refine lv_iconst (v := 1) hx hb dX11_costOf_11 (by decide) ?_
  refine k_join (hd := 81) (cells2 := 0) (slots2 := 0) (fun (_ : Unit) => []) (fun (_ : Unit) (H : Heap) (locs : List Loc) (ls : Array Slot) => va_P D vwCl [(h, oX11 th aw ai ab ac hi re aP ta po en be de fa a5 sp av an ak ne aW aC ag aT aN aF), (aw, .inl (cI, 2179, .inl fw)), (av, .inl (cI, 400, .inl g596))] H ∧ va_D A [(h, oX11 th aw ai ab ac hi re aP ta po en be de fa a5 sp av an ak ne aW aC ag aT aN aF), (aw, .inl (cI, 2179, .inl fw)), (av, .inl (cI, 400, .inl g596))] ∧ va_S A s.heap H locs ∧ lv_has ls 5 [(4, .int y594), (3, .int y595), (0, .ref h), (1, .int mm), (2, .int b)]) (fun u H locs ls hI => ?_) (fun hJ81 => ?_)
  · skip
    clear hP hD hS hl
    obtain ⟨hP, hD, hS, hl⟩ := hI
    have hP : va_P D vwCl [(h, oX11 th aw ai ab ac hi re aP ta po en be de fa a5 sp av an ak ne aW aC ag aT aN aF), (aw, .inl (cI, 2179, .inl fw)), (av, .inl (cI, 400, .inl g596))] H := hP
    have hD : va_D A [(h, oX11 th aw ai ab ac hi re aP ta po en be de fa a5 sp av an ak ne aW aC ag aT aN aF), (aw, .inl (cI, 2179, .inl fw)), (av, .inl (cI, 400, .inl g596))] := hD
    have hl : lv_has ls 5 [(4, .int y594), (3, .int y595), (0, .ref h), (1, .int mm), (2, .int b)] := hl
    refine lv_iload_n hx hb dX11_costOf_81 rfl (lv_at hl 1 rfl) ?_
    have hP9 := hP.sub (ws' := [(h, oX11 th aw ai ab ac hi re aP ta po en be de fa a5 sp av an ak ne aW aC ag aT aN aF), (aw, .inl (cI, 2179, .inl fw)), (av, .inl (cI, 400, .inl g596))]) [0, 1, 2] rfl
    have hD9 := hD.sub (ws' := [(h, oX11 th aw ai ab ac hi re aP ta po en be de fa a5 sp av an ak ne aW aC ag aT aN aF), (aw, .inl (cI, 2179, .inl fw)), (av, .inl (cI, 400, .inl g596))]) [0, 1, 2] (by decide) rfl
    exact W.iret (v := y595) hx hb hr (fun t ht hW => ⟨⟨y595, (g596), rfl, trivial, by rw [ht]; exact hP9, va_K.moved hW.alike hK, hD9⟩, hS.F ht⟩) hS.2.2 dX11_costOf_82
  refine lv_icmp_ne (tgt := 81) hx hb dX11_costOf_12 (by decide) (fun c633 => ?_) (fun c633 => ?_)
  · skip
    exact hJ81 () _ _ _ ⟨hP.sub (ws' := [(h, oX11 th aw ai ab ac hi re aP ta po en be de fa a5 sp av an ak ne aW aC ag aT aN aF), (aw, .inl (cI, 2179, .inl fw)), (av, .inl (cI, 400, .inl g596))]) [0, 1, 2] rfl, hD.sub (ws' := [(h, oX11 th aw ai ab ac hi re aP ta po en be de fa a5 sp av an ak ne aW aC ag aT aN aF), (aw, .inl (cI, 2179, .inl fw)), (av, .inl (cI, 400, .inl g596))]) [0, 1, 2] (by decide) rfl, hS, lv_sub (l' := [(4, .int y594), (3, .int y595), (0, .ref h), (1, .int mm), (2, .int b)]) hl [0, 1, 2, 3, 4] rfl⟩
  · skip
    have k634 : Rg x598 1 1 := rg_q1 (eqI c633) (rg_any x598) (rg_lit (n := 1) (by decide)) (by decide)
    refine lv_iload hx hb dX11_costOf_15 (lv_at hl 0 rfl) ?_
    refine lv_aload_n hx hb dX11_costOf_17 rfl (lv_at hl 2 rfl) ?_
    refine va_get (D := D) (ci := 10) (v := .ref aw) (C := RX11) (T := TX11) (N := 26) hx hb hts iG_X11 hown hK hP 0 rfl rfl 1 (by decide) (hts _ w5_3) (fun _ h9 => h9) rfl dX11_costOf_18 ?_
    refine lv_sipush (v := 505) hx hb dX11_costOf_21 (by decide) ?_
    refine va_iald hx hb hK hP 1 0 rfl rfl (rg_in (rg_lit (n := 505) (by decide)) (by decide)) dX11_costOf_24 ?_
    refine lv_topi (fun x635 ex635 => ?_)
    have k636 : Rg x635 0 12 := wL_505 H_fw_L ex635
    refine lv_icmp_ge (tgt := 81) hx hb dX11_costOf_25 (by decide) (fun c637 => ?_) (fun c637 => ?_)
    · skip
      exact hJ81 () _ _ _ ⟨hP.sub (ws' := [(h, oX11 th aw ai ab ac hi re aP ta po en be de fa a5 sp av an ak ne aW aC ag aT aN aF), (aw, .inl (cI, 2179, .inl fw)), (av, .inl (cI, 400, .inl g596))]) [0, 1, 2] rfl, hD.sub (ws' := [(h, oX11 th aw ai ab ac hi re aP ta po en be de fa a5 sp av an ak ne aW aC ag aT aN aF), (aw, .inl (cI, 2179, .inl fw)), (av, .inl (cI, 400, .inl g596))]) [0, 1, 2] (by decide) rfl, hS, lv_sub (l' := [(4, .int y594), (3, .int y595), (0, .ref h), (1, .int mm), (2, .int b)]) hl [0, 1, 2, 3, 4] rfl⟩
    · skip
      have k638 : Rg y594 0 11 := rg_l1 (nleI c637) hy594 k636 (by decide)
      have k639 : Rg x635 1 12 := rg_l2 (nleI c637) hy594 k636 (by decide)
      refine lv_iload_n hx hb dX11_costOf_28 rfl (lv_at hl 1 rfl) ?_
      refine lv_aload_n hx hb dX11_costOf_29 rfl (lv_at hl 2 rfl) ?_
      refine va_get (D := D) (ci := 10) (v := .ref aw) (C := RX11) (T := TX11) (N := 26) hx hb hts iG_X11 hown hK hP 0 rfl rfl 1 (by decide) (hts _ w5_3) (fun _ h9 => h9) rfl dX11_costOf_30 ?_
      refine lv_sipush (v := 506) hx hb dX11_costOf_33 (by decide) ?_
      refine lv_iconst (v := 3) hx hb dX11_costOf_36 (by decide) ?_
      refine lv_iload hx hb dX11_costOf_37 (lv_at hl 0 rfl) ?_
      refine lv_imul hx hb dX11_costOf_39 ?_
      refine lv_topi (fun x640 ex640 => ?_)
      have tx640 : x640.toInt = 3 * y594.toInt := ti_mul ex640 (rg_lit (n := 3) (by decide)) k638 (by decide) (by decide) rfl
      have k641 : Rg x640 0 33 := rg_mul ex640 (rg_lit (n := 3) (by decide)) k638 (by decide)
      refine lv_iadd hx hb dX11_costOf_40 ?_
      refine lv_topi (fun x642 ex642 => ?_)
      have tx642 : x642.toInt = 506 + x640.toInt := ti_add ex642 (rg_lit (n := 506) (by decide)) k641 (by decide) (by decide) rfl
      have k643 : Rg x642 506 539 := rg_add ex642 (rg_lit (n := 506) (by decide)) k641 (by decide)
      refine va_iald hx hb hK hP 1 0 rfl rfl (rg_in k643 (by decide)) dX11_costOf_41 ?_
      refine lv_topi (fun x644 ex644 => ?_)
      refine k_join (hd := 73) (cells2 := 0) (slots2 := 0) (fun (u : Int32 × Int32 × (Nat → Int32)) => match u with | (z664, z665, g666) => [.int z664, .int z665]) (fun (u : Int32 × Int32 × (Nat → Int32)) (H : Heap) (locs : List Loc) (ls : Array Slot) => match u with | (z664, z665, g666) => va_P D vwCl [(h, oX11 th aw ai ab ac hi re aP ta po en be de fa a5 sp av an ak ne aW aC ag aT aN aF), (aw, .inl (cI, 2179, .inl fw)), (av, .inl (cI, 400, .inl g666))] H ∧ va_D A [(h, oX11 th aw ai ab ac hi re aP ta po en be de fa a5 sp av an ak ne aW aC ag aT aN aF), (aw, .inl (cI, 2179, .inl fw)), (av, .inl (cI, 400, .inl g666))] ∧ va_S A s.heap H locs ∧ lv_has ls 5 [(4, .int y594), (3, .int y595), (0, .ref h), (1, .int mm), (2, .int b)]) (fun u H locs ls hI => ?_) (fun hJ73 => ?_)
      · skip
        clear hP hD hS hl
        obtain ⟨z664, z665, g666⟩ := u
        obtain ⟨hP, hD, hS, hl⟩ := hI
        have hP : va_P D vwCl [(h, oX11 th aw ai ab ac hi re aP ta po en be de fa a5 sp av an ak ne aW aC ag aT aN aF), (aw, .inl (cI, 2179, .inl fw)), (av, .inl (cI, 400, .inl g666))] H := hP
        have hD : va_D A [(h, oX11 th aw ai ab ac hi re aP ta po en be de fa a5 sp av an ak ne aW aC ag aT aN aF), (aw, .inl (cI, 2179, .inl fw)), (av, .inl (cI, 400, .inl g666))] := hD
        have hl : lv_has ls 5 [(4, .int y594), (3, .int y595), (0, .ref h), (1, .int mm), (2, .int b)] := hl
        show W _ _ _ _ _ _ _ _ _ _ _ _ _ _ _ (F0 m 73 ls [.int z664, .int z665])
        refine lv_iadd hx hb dX11_costOf_73 ?_
        refine lv_topi (fun x667 ex667 => ?_)
        refine lv_istore_n (lv' := [(3, .int x667), (4, .int y594), (0, .ref h), (1, .int mm), (2, .int b)]) hx hb dX11_costOf_74 rfl hl (by decide) rfl (fun ls hl => ?_)
        obtain ⟨x668, ex668⟩ : ∃ y : Int32, y = y594 + 1 := ⟨_, rfl⟩
        refine lv_iinc (v := x668) (lv' := [(4, .int x668), (3, .int x667), (0, .ref h), (1, .int mm), (2, .int b)]) hx hb dX11_costOf_75 hl (k := 1) rfl (by rw [ex668]; rfl) (by decide) rfl (fun ls hl => ?_)
        have k669 : Rg x668 1 12 := rg_add ex668 k638 (rg_lit (n := 1) (by decide)) (by decide)
        refine lv_goto (tgt := 5) hx hb dX11_costOf_78 (by decide) ?_
        exact ih597 (x668, x667, g666) _ _ _ (by show (12 - (x668).toInt).toNat < (12 - (y594).toInt).toNat; exact mu_up ex668 k638 k669 (by decide)) ⟨(rg_w k669 (by decide)), hP.sub (ws' := [(h, oX11 th aw ai ab ac hi re aP ta po en be de fa a5 sp av an ak ne aW aC ag aT aN aF), (aw, .inl (cI, 2179, .inl fw)), (av, .inl (cI, 400, .inl g666))]) [0, 1, 2] rfl, hD.sub (ws' := [(h, oX11 th aw ai ab ac hi re aP ta po en be de fa a5 sp av an ak ne aW aC ag aT aN aF), (aw, .inl (cI, 2179, .inl fw)), (av, .inl (cI, 400, .inl g666))]) [0, 1, 2] (by decide) rfl, hS, lv_sub (l' := [(4, .int x668), (3, .int x667), (0, .ref h), (1, .int mm), (2, .int b)]) hl [0, 1, 2, 3, 4] rfl⟩
      refine k_join (hd := 72) (cells2 := 0) (slots2 := 0) (fun (u : Int32 × (Nat → Int32)) => match u with | (z670, g671) => [.int z670]) (fun (u : Int32 × (Nat → Int32)) (H : Heap) (locs : List Loc) (ls : Array Slot) => match u with | (z670, g671) => va_P D vwCl [(h, oX11 th aw ai ab ac hi re aP ta po en be de fa a5 sp av an ak ne aW aC ag aT aN aF), (aw, .inl (cI, 2179, .inl fw)), (av, .inl (cI, 400, .inl g671))] H ∧ va_D A [(h, oX11 th aw ai ab ac hi re aP ta po en be de fa a5 sp av an ak ne aW aC ag aT aN aF), (aw, .inl (cI, 2179, .inl fw)), (av, .inl (cI, 400, .inl g671))] ∧ va_S A s.heap H locs ∧ lv_has ls 5 [(4, .int y594), (3, .int y595), (0, .ref h), (1, .int mm), (2, .int b)]) (fun u H locs ls hI => ?_) (fun hJ72 => ?_)
      · skip
        clear hP hD hS hl
        obtain ⟨z670, g671⟩ := u
        obtain ⟨hP, hD, hS, hl⟩ := hI
        have hP : va_P D vwCl [(h, oX11 th aw ai ab ac hi re aP ta po en be de fa a5 sp av an ak ne aW aC ag aT aN aF), (aw, .inl (cI, 2179, .inl fw)), (av, .inl (cI, 400, .inl g671))] H := hP
        have hD : va_D A [(h, oX11 th aw ai ab ac hi re aP ta po en be de fa a5 sp av an ak ne aW aC ag aT aN aF), (aw, .inl (cI, 2179, .inl fw)), (av, .inl (cI, 400, .inl g671))] := hD
        have hl : lv_has ls 5 [(4, .int y594), (3, .int y595), (0, .ref h), (1, .int mm), (2, .int b)] := hl
        show W _ _ _ _ _ _ _ _ _ _ _ _ _ _ _ (F0 m 72 ls [.int z670])
        refine lv_iconst (v := 0) hx hb dX11_costOf_72 (by decide) ?_
        exact hJ73 ((0 : Int32), z670, g671) _ _ _ ⟨hP.sub (ws' := [(h, oX11 th aw ai ab ac hi re aP ta po en be de fa a5 sp av an ak ne aW aC ag aT aN aF), (aw, .inl (cI, 2179, .inl fw)), (av, .inl (cI, 400, .inl g671))]) [0, 1, 2] rfl, hD.sub (ws' := [(h, oX11 th aw ai ab ac hi re aP ta po en be de fa a5 sp av an ak ne aW aC ag aT aN aF), (aw, .inl (cI, 2179, .inl fw)), (av, .inl (cI, 400, .inl g671))]) [0, 1, 2] (by decide) rfl, hS, lv_sub (l' := [(4, .int y594), (3, .int y595), (0, .ref h), (1, .int mm), (2, .int b)]) hl [0, 1, 2, 3, 4] rfl⟩
      refine lv_if_lt (tgt := 72) hx hb dX11_costOf_42 (by decide) (fun c672 => ?_) (fun c672 => ?_)
      · skip
        have k673 : Rg x644 (-2147483648) (-1) := rg_l1 (ltI c672) (rg_any x644) (rg_lit (n := 0) (by decide)) (by decide)
        exact hJ72 (y595, g596) _ _ _ ⟨hP.sub (ws' := [(h, oX11 th aw ai ab ac hi re aP ta po en be de fa a5 sp av an ak ne aW aC ag aT aN aF), (aw, .inl (cI, 2179, .inl fw)), (av, .inl (cI, 400, .inl g596))]) [0, 1, 2] rfl, hD.sub (ws' := [(h, oX11 th aw ai ab ac hi re aP ta po en be de fa a5 sp av an ak ne aW aC ag aT aN aF), (aw, .inl (cI, 2179, .inl fw)), (av, .inl (cI, 400, .inl g596))]) [0, 1, 2] (by decide) rfl, hS, lv_sub (l' := [(4, .int y594), (3, .int y595), (0, .ref h), (1, .int mm), (2, .int b)]) hl [0, 1, 2, 3, 4] rfl⟩
      · skip
        have k674 : Rg x644 0 2147483647 := rg_e2 (nltI c672) (rg_lit (n := 0) (by decide)) (rg_any x644) (by decide)
        refine lv_aload_n hx hb dX11_costOf_45 rfl (lv_at hl 2 rfl) ?_
        refine lv_iload hx hb dX11_costOf_46 (lv_at hl 0 rfl) ?_
        refine lv_iload_n hx hb dX11_costOf_48 rfl (lv_at hl 3 rfl) ?_
        refine lv_iload_n hx hb dX11_costOf_49 rfl (lv_at hl 4 rfl) ?_
        refine kcalli (wc := [(h, oX11 th aw ai ab ac hi re aP ta po en be de fa a5 sp av an ak ne aW aC ag aT aN aF), (aw, .inl (cI, 2179, .inl fw)), (av, .inl (cI, 400, .inl g596))]) (wr := []) hP hD hS hA [0, 1, 2] [] rfl rfl (by decide) (by decide) (by decide) (fun hPc hDc hFc => va_runV (As := [.int y594, .int mm, .int b]) (rest := [.int y595]) ⟨hx, hb, hml, hown, hts⟩ (r_holdsLine l D cI cJ cB cC h th aw ai ab ac hi re aP ta po en be de fa a5 sp av an ak ne aW aC ag aT aN aF fw g596 y594 mm b H.size H_mm H_b k638 H_fw_W H_fw_L (lt_505 ex635 (nleI c637))) (cwV 3 hts gX11_costOf_X11_holdsLine rfl rfl rfl ⟨rfl, hdX11_holdsLine⟩ ⟨Nat.le_of_ble_eq_true rfl, Nat.le_of_ble_eq_true rfl⟩) ⟨kBlind, va_recv hK hPc (ci := 10) (q0 := 0) rfl rfl, fun U hU hW => ⟨rfl, by rw [hU], hN.warm hW, hE.pass hS hFc hW hU, by rw [hU]; exact hPc, va_K.moved hW.alike hK, hDc⟩⟩ rfl rfl hl.1 rfl (lv_room (Nat.le_of_ble_eq_true rfl)) dX11_costOf_50 ⟨Nat.le_of_ble_eq_true rfl, Nat.le_of_ble_eq_true rfl⟩) (fun r675 u H locs hw hP hD hS => ?_)
        obtain ⟨g676, rfl⟩ : ∃ z, z = u := ⟨_, rfl⟩
        have hP : va_P D vwCl [(h, oX11 th aw ai ab ac hi re aP ta po en be de fa a5 sp av an ak ne aW aC ag aT aN aF), (aw, .inl (cI, 2179, .inl fw)), (av, .inl (cI, 400, .inl g676))] H := hP
        have hD : va_D A [(h, oX11 th aw ai ab ac hi re aP ta po en be de fa a5 sp av an ak ne aW aC ag aT aN aF), (aw, .inl (cI, 2179, .inl fw)), (av, .inl (cI, 400, .inl g676))] := hD
        have k677 := hw
        refine lv_if_eq (tgt := 72) hx hb dX11_costOf_53 (by decide) (fun c678 => ?_) (fun c678 => ?_)
        · skip
          have k679 : Rg r675 0 0 := rg_q1 (eqI c678) k677 (rg_lit (n := 0) (by decide)) (by decide)
          exact hJ72 (y595, g676) _ _ _ ⟨hP.sub (ws' := [(h, oX11 th aw ai ab ac hi re aP ta po en be de fa a5 sp av an ak ne aW aC ag aT aN aF), (aw, .inl (cI, 2179, .inl fw)), (av, .inl (cI, 400, .inl g676))]) [0, 1, 2] rfl, hD.sub (ws' := [(h, oX11 th aw ai ab ac hi re aP ta po en be de fa a5 sp av an ak ne aW aC ag aT aN aF), (aw, .inl (cI, 2179, .inl fw)), (av, .inl (cI, 400, .inl g676))]) [0, 1, 2] (by decide) rfl, hS, lv_sub (l' := [(4, .int y594), (3, .int y595), (0, .ref h), (1, .int mm), (2, .int b)]) hl [0, 1, 2, 3, 4] rfl⟩
        · skip
          have k680 : Rg r675 1 1 := rg_n1 (neI c678) k677 (rg_lit (n := 0) (by decide)) (by decide)
          refine lv_aload_n hx hb dX11_costOf_56 rfl (lv_at hl 2 rfl) ?_
          refine va_get (D := D) (ci := 10) (v := .ref aw) (C := RX11) (T := TX11) (N := 26) hx hb hts iG_X11 hown hK hP 0 rfl rfl 1 (by decide) (hts _ w5_3) (fun _ h9 => h9) rfl dX11_costOf_57 ?_
          refine lv_sipush (v := 506) hx hb dX11_costOf_60 (by decide) ?_
          refine lv_iconst (v := 3) hx hb dX11_costOf_63 (by decide) ?_
          refine lv_iload hx hb dX11_costOf_64 (lv_at hl 0 rfl) ?_
          refine lv_imul hx hb dX11_costOf_66 ?_
          refine lv_topi (fun x681 ex681 => ?_)
          have tx681 : x681.toInt = 3 * y594.toInt := ti_mul ex681 (rg_lit (n := 3) (by decide)) k638 (by decide) (by decide) rfl
          have k682 : Rg x681 0 33 := rg_mul ex681 (rg_lit (n := 3) (by decide)) k638 (by decide)
          refine lv_iadd hx hb dX11_costOf_67 ?_
          refine lv_topi (fun x683 ex683 => ?_)
          have tx683 : x683.toInt = 506 + x681.toInt := ti_add ex683 (rg_lit (n := 506) (by decide)) k682 (by decide) (by decide) rfl
          have k684 : Rg x683 506 539 := rg_add ex683 (rg_lit (n := 506) (by decide)) k682 (by decide)
          refine va_iald hx hb hK hP 1 0 rfl rfl (rg_in k684 (by decide)) dX11_costOf_68 ?_
          refine lv_topi (fun x685 ex685 => ?_)
          refine lv_goto (tgt := 73) hx hb dX11_costOf_69 (by decide) ?_
          exact hJ73 (x685, y595, g676) _ _ _ ⟨hP.sub (ws' := [(h, oX11 th aw ai ab ac hi re aP ta po en be de fa a5 sp av an ak ne aW aC ag aT aN aF), (aw, .inl (cI, 2179, .inl fw)), (av, .inl (cI, 400, .inl g676))]) [0, 1, 2] rfl, hD.sub (ws' := [(h, oX11 th aw ai ab ac hi re aP ta po en be de fa a5 sp av an ak ne aW aC ag aT aN aF), (aw, .inl (cI, 2179, .inl fw)), (av, .inl (cI, 400, .inl g676))]) [0, 1, 2] (by decide) rfl, hS, lv_sub (l' := [(4, .int y594), (3, .int y595), (0, .ref h), (1, .int mm), (2, .int b)]) hl [0, 1, 2, 3, 4] rfl⟩

