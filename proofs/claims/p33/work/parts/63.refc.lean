def kwX11_passed : List Cond := .code yX11_passed cX11_passed 5 (some .int) :: kG
theorem hdX11_passed : yX11_passed.cls ≠ "java/lang/invoke/MethodHandle" ∧ yX11_passed.cls ≠ "java/lang/invoke/VarHandle" ∧ (parseMethodDescriptor yX11_passed.desc).map (fun d => d.parameters.length) = some 1 := by decide +kernel
theorem gX11_passed_X11_has : GoodIn kG (va_wsS RX11 310 yX11_has kwX11_has) := gK w37_11 (gK w37_12 (gK w0_5 (gK w37_13 gGG)))
theorem gX11_passed_X11_isNeighbour : GoodIn kG (wsV RX11 267 RX11 yX11_isNeighbour kwX11_isNeighbour) := gK w27_11 (gK w27_12 (gK w27_13 (gK w0_5 (gK w27_14 gGG))))
theorem gX11_passed_X11_men : GoodIn kG (wsV RX11 71 RX11 yX11_men kwX11_men) := gK w19_17 (gK w19_18 (gK w19_19 (gK w0_5 (gK w19_20 gGG))))
theorem dX11_passed_0 : decode cX11_passed 0 = .ok (.iload_n 1, 1) := by decide +kernel
theorem dX11_passed_1 : decode cX11_passed 1 = .ok (.istore_n 2, 1) := by decide +kernel
theorem dX11_passed_2 : decode cX11_passed 2 = .ok (.iconst 0, 1) := by decide +kernel
theorem dX11_passed_3 : decode cX11_passed 3 = .ok (.istore_n 3, 1) := by decide +kernel
theorem dX11_passed_4 : decode cX11_passed 4 = .ok (.iload_n 3, 1) := by decide +kernel
theorem dX11_passed_5 : decode cX11_passed 5 = .ok (.aload_n 0, 1) := by decide +kernel
theorem dX11_passed_6 : decode cX11_passed 6 = .ok (.invokevirtual 71, 3) := by decide +kernel
theorem dX11_passed_9 : decode cX11_passed 9 = .ok (.if_icmp .ge 56, 3) := by decide +kernel
theorem dX11_passed_12 : decode cX11_passed 12 = .ok (.iconst 0, 1) := by decide +kernel
theorem dX11_passed_13 : decode cX11_passed 13 = .ok (.istore 4, 2) := by decide +kernel
theorem dX11_passed_15 : decode cX11_passed 15 = .ok (.iload 4, 2) := by decide +kernel
theorem dX11_passed_17 : decode cX11_passed 17 = .ok (.aload_n 0, 1) := by decide +kernel
theorem dX11_passed_18 : decode cX11_passed 18 = .ok (.invokevirtual 71, 3) := by decide +kernel
theorem dX11_passed_21 : decode cX11_passed 21 = .ok (.if_icmp .ge 38, 3) := by decide +kernel
theorem dX11_passed_24 : decode cX11_passed 24 = .ok (.iload_n 2, 1) := by decide +kernel
theorem dX11_passed_25 : decode cX11_passed 25 = .ok (.iload_n 1, 1) := by decide +kernel
theorem dX11_passed_26 : decode cX11_passed 26 = .ok (.iload_n 3, 1) := by decide +kernel
theorem dX11_passed_27 : decode cX11_passed 27 = .ok (.invokestatic 310, 3) := by decide +kernel
theorem dX11_passed_30 : decode cX11_passed 30 = .ok (.ifCond .eq 20, 3) := by decide +kernel
theorem dX11_passed_33 : decode cX11_passed 33 = .ok (.aload_n 0, 1) := by decide +kernel
theorem dX11_passed_34 : decode cX11_passed 34 = .ok (.iload_n 3, 1) := by decide +kernel
theorem dX11_passed_35 : decode cX11_passed 35 = .ok (.iload 4, 2) := by decide +kernel
theorem dX11_passed_37 : decode cX11_passed 37 = .ok (.invokevirtual 267, 3) := by decide +kernel
theorem dX11_passed_40 : decode cX11_passed 40 = .ok (.ifCond .eq 10, 3) := by decide +kernel
theorem dX11_passed_43 : decode cX11_passed 43 = .ok (.iconst 1, 1) := by decide +kernel
theorem dX11_passed_44 : decode cX11_passed 44 = .ok (.iload 4, 2) := by decide +kernel
theorem dX11_passed_46 : decode cX11_passed 46 = .ok (.ishl, 1) := by decide +kernel
theorem dX11_passed_47 : decode cX11_passed 47 = .ok (.goto 4, 3) := by decide +kernel
theorem dX11_passed_50 : decode cX11_passed 50 = .ok (.iconst 0, 1) := by decide +kernel
theorem dX11_passed_51 : decode cX11_passed 51 = .ok (.ior, 1) := by decide +kernel
theorem dX11_passed_52 : decode cX11_passed 52 = .ok (.istore_n 2, 1) := by decide +kernel
theorem dX11_passed_53 : decode cX11_passed 53 = .ok (.iinc 4 1, 3) := by decide +kernel
theorem dX11_passed_56 : decode cX11_passed 56 = .ok (.goto (-41), 3) := by decide +kernel
theorem dX11_passed_59 : decode cX11_passed 59 = .ok (.iinc 3 1, 3) := by decide +kernel
theorem dX11_passed_62 : decode cX11_passed 62 = .ok (.goto (-58), 3) := by decide +kernel
theorem dX11_passed_65 : decode cX11_passed 65 = .ok (.iload_n 2, 1) := by decide +kernel
theorem dX11_passed_66 : decode cX11_passed 66 = .ok (.ireturn, 1) := by decide +kernel
set_option maxHeartbeats 4000000 in
set_option maxRecDepth 100000 in
/-- reference: passed -/
theorem r_passed (l : Launch) (D : va_G) (cI cJ cB cC : ClassId) (h : Nat) (th : Int32) (aw : Nat) (ai : Nat) (ab : Nat) (ac : Nat) (hi : Int32) (re : Int32) (aP : Nat) (ta : Int32) (po : Int32) (en : Int32) (be : Int32) (de : Int32) (fa : Int32) (a5 : Nat) (sp : Int32) (av : Nat) (an : Nat) (ak : Nat) (ne : Int32) (aW : Nat) (aC : Nat) (ag : Nat) (aT : Nat) (aN : Nat) (aF : Nat) (fw : Nat → Int32) (mm : Int32) (sz : Nat) (H_fw_W : wW fw) : Met l yX11_passed kwX11_passed ({ frames := 2, cells := 0, slots := 0, locals := 44 } : Room) (kPre D (kT cI cJ cB cC) sz [(h, oX11 th aw ai ab ac hi re aP ta po en be de fa a5 sp av an ak ne aW aC ag aT aN aF), (aw, .inl (cI, 2179, .inl fw))] [.ref h, .int mm]) (va_Qi (fun (r : Int32) (_ : Unit) => True) (fun (_ : Unit) (t : State) => kB D (kT cI cJ cB cC) (va_A [(h, oX11 th aw ai ab ac hi re aP ta po en be de fa a5 sp av an ak ne aW aC ag aT aN aF), (aw, .inl (cI, 2179, .inl fw))] sz) [(h, oX11 th aw ai ab ac hi re aP ta po en be de fa a5 sp av an ak ne aW aC ag aT aN aF), (aw, .inl (cI, 2179, .inl fw))] t) (va_A [(h, oX11 th aw ai ab ac hi re aP ta po en be de fa a5 sp av an ak ne aW aC ag aT aN aF), (aw, .inl (cI, 2179, .inl fw))] sz)) 0 0 (va_A [(h, oX11 th aw ai ab ac hi re aP ta po en be de fa a5 sp av an ak ne aW aC ag aT aN aF), (aw, .inl (cI, 2179, .inl fw))] sz) := by
  refine Met.ofW (cc := cX11_passed) (maxL := 5) (ret := (some .int)) (by decide) rfl ?_
  intro p e s m args below meth c s₁ B hml hv
  obtain ⟨rfl, hsz, hN, hE, hP, hK, hD0⟩ := hv
  have hx := B.exec
  have hb := B.bytes
  have hr := B.returns
  have hts := fun (w : Cond) (h : w ∈ kG) => atoms_spec (ws := kwX11_passed) B.pre w (List.mem_cons_of_mem _ h)
  have hown : s.vm.findClass RX11 = some m.cls := findClass_of_methodNamed B.named
  subst hsz
  have hD := hD0.self (sz := s.heap.size)
  generalize hAe : va_A [(h, oX11 th aw ai ab ac hi re aP ta po en be de fa a5 sp av an ak ne aW aC ag aT aN aF), (aw, .inl (cI, 2179, .inl fw))] s.heap.size = A at hD hE ⊢
  have hA : ∀ q : Nat, s.heap.size ≤ q → A q := fun q h => by rw [← hAe]; exact Or.inr h
  have hl := lv_entry ([.ref h, .int mm]) (n := 5) (Nat.le_of_ble_eq_true rfl)
  rw [lg_entry_eq]
  generalize (lg_sl ([.ref h, .int mm]) ++ List.replicate (5 - (lg_sl ([.ref h, .int mm])).length) Slot.unset).toArray = ls at hl ⊢
  have hl : lv_has ls 5 [(0, .ref h), (1, .int mm)] := hl
  obtain ⟨H, hH0⟩ : ∃ H, H = s.heap := ⟨_, rfl⟩
  have hS : va_S A s.heap H [] := by rw [hH0]; exact va_S.rf
  have hP : va_P D vwCl [(h, oX11 th aw ai ab ac hi re aP ta po en be de fa a5 sp av an ak ne aW aC ag aT aN aF), (aw, .inl (cI, 2179, .inl fw))] H := by rw [hH0]; exact hP
  refine kHeap hH0 ?_
  clear hH0
  refine lv_iload_n hx hb dX11_passed_0 rfl (lv_at hl 1 rfl) ?_
  refine lv_istore_n (lv' := [(2, .int mm), (0, .ref h), (1, .int mm)]) hx hb dX11_passed_1 rfl hl (by decide) rfl (fun ls hl => ?_)
  refine lv_iconst (v := 0) hx hb dX11_passed_2 (by decide) ?_
  refine lv_istore_n (lv' := [(3, .int 0), (2, .int mm), (0, .ref h), (1, .int mm)]) hx hb dX11_passed_3 rfl hl (by decide) rfl (fun ls hl => ?_)
  refine k_loop (hd := 4) (fun (u : Int32 × Int32) => match u with | (y6813, y6814) => (10 - (y6813).toInt).toNat) (fun (u : Int32 × Int32) (H : Heap) (locs : List Loc) (ls : Array Slot) => match u with | (y6813, y6814) => Rg y6813 0 10 ∧ va_P D vwCl [(h, oX11 th aw ai ab ac hi re aP ta po en be de fa a5 sp av an ak ne aW aC ag aT aN aF), (aw, .inl (cI, 2179, .inl fw))] H ∧ va_D A [(h, oX11 th aw ai ab ac hi re aP ta po en be de fa a5 sp av an ak ne aW aC ag aT aN aF), (aw, .inl (cI, 2179, .inl fw))] ∧ va_S A s.heap H locs ∧ lv_has ls 5 [(3, .int y6813), (2, .int y6814), (0, .ref h), (1, .int mm)]) ((0 : Int32), mm) ⟨(rg_w (rg_lit (n := 0) (by decide)) (by decide)), hP.sub (ws' := [(h, oX11 th aw ai ab ac hi re aP ta po en be de fa a5 sp av an ak ne aW aC ag aT aN aF), (aw, .inl (cI, 2179, .inl fw))]) [0, 1] rfl, hD.sub (ws' := [(h, oX11 th aw ai ab ac hi re aP ta po en be de fa a5 sp av an ak ne aW aC ag aT aN aF), (aw, .inl (cI, 2179, .inl fw))]) [0, 1] (by decide) rfl, hS, lv_sub (l' := [(3, .int 0), (2, .int mm), (0, .ref h), (1, .int mm)]) hl [0, 1, 2, 3] rfl⟩ (fun u H locs ls hI ih6815 => ?_)
  clear hP hD hS hl
  obtain ⟨y6813, y6814⟩ := u
  obtain ⟨hy6813, hP, hD, hS, hl⟩ := hI
  have hP : va_P D vwCl [(h, oX11 th aw ai ab ac hi re aP ta po en be de fa a5 sp av an ak ne aW aC ag aT aN aF), (aw, .inl (cI, 2179, .inl fw))] H := hP
  have hD : va_D A [(h, oX11 th aw ai ab ac hi re aP ta po en be de fa a5 sp av an ak ne aW aC ag aT aN aF), (aw, .inl (cI, 2179, .inl fw))] := hD
  have hl : lv_has ls 5 [(3, .int y6813), (2, .int y6814), (0, .ref h), (1, .int mm)] := hl
  refine lv_iload_n hx hb dX11_passed_4 rfl (lv_at hl 0 rfl) ?_
  refine lv_aload_n hx hb dX11_passed_5 rfl (lv_at hl 2 rfl) ?_
  refine kpurei (wc := [(h, oX11 th aw ai ab ac hi re aP ta po en be de fa a5 sp av an ak ne aW aC ag aT aN aF), (aw, .inl (cI, 2179, .inl fw))]) hP hD hS hA [0, 1] rfl (by decide) (fun hPc hDc hFc => va_runV (As := []) (rest := [.int y6813]) ⟨hx, hb, hml, hown, hts⟩ (r_men l D cI cJ cB cC h th aw ai ab ac hi re aP ta po en be de fa a5 sp av an ak ne aW aC ag aT aN aF fw H.size H_fw_W) (cwV 0 hts gX11_passed_X11_men rfl rfl rfl ⟨rfl, hdX11_men⟩ ⟨Nat.le_of_ble_eq_true rfl, Nat.le_of_ble_eq_true rfl⟩) ⟨kBlind, va_recv hK hPc (ci := 10) (q0 := 0) rfl rfl, fun U hU hW => ⟨rfl, by rw [hU], hN.warm hW, hE.pass hS hFc hW hU, by rw [hU]; exact hPc, va_K.moved hW.alike hK, hDc⟩⟩ rfl rfl hl.1 rfl (lv_room (Nat.le_of_ble_eq_true rfl)) dX11_passed_6 ⟨Nat.le_of_ble_eq_true rfl, Nat.le_of_ble_eq_true rfl⟩) (fun r6816 u H locs hw hP hS => ?_)
  obtain ⟨k6817, k6818⟩ := hw
  refine lv_icmp_ge (tgt := 65) hx hb dX11_passed_9 (by decide) (fun c6819 => ?_) (fun c6819 => ?_)
  · skip
    refine lv_iload_n hx hb dX11_passed_65 rfl (lv_at hl 1 rfl) ?_
    have hP9 := hP.sub (ws' := [(h, oX11 th aw ai ab ac hi re aP ta po en be de fa a5 sp av an ak ne aW aC ag aT aN aF), (aw, .inl (cI, 2179, .inl fw))]) [0, 1] rfl
    have hD9 := hD.sub (ws' := [(h, oX11 th aw ai ab ac hi re aP ta po en be de fa a5 sp av an ak ne aW aC ag aT aN aF), (aw, .inl (cI, 2179, .inl fw))]) [0, 1] (by decide) rfl
    exact W.iret (v := y6814) hx hb hr (fun t ht hW => ⟨⟨y6814, (), rfl, trivial, by rw [ht]; exact hP9, va_K.moved hW.alike hK, hD9⟩, hS.F ht⟩) hS.2.2 dX11_passed_66
  · skip
    have k6820 : Rg y6813 0 9 := rg_l1 (nleI c6819) hy6813 k6818 (by decide)
    have k6821 : Rg r6816 1 10 := rg_l2 (nleI c6819) hy6813 k6818 (by decide)
    refine lv_iconst (v := 0) hx hb dX11_passed_12 (by decide) ?_
    refine lv_istore (lv' := [(4, .int 0), (3, .int y6813), (2, .int y6814), (0, .ref h), (1, .int mm)]) hx hb dX11_passed_13 hl (by decide) rfl (fun ls hl => ?_)
    refine k_loop (hd := 15) (fun (u : Int32 × Int32) => match u with | (y7213, y7214) => (10 - (y7213).toInt).toNat) (fun (u : Int32 × Int32) (H : Heap) (locs : List Loc) (ls : Array Slot) => match u with | (y7213, y7214) => Rg y7213 0 10 ∧ va_P D vwCl [(h, oX11 th aw ai ab ac hi re aP ta po en be de fa a5 sp av an ak ne aW aC ag aT aN aF), (aw, .inl (cI, 2179, .inl fw))] H ∧ va_D A [(h, oX11 th aw ai ab ac hi re aP ta po en be de fa a5 sp av an ak ne aW aC ag aT aN aF), (aw, .inl (cI, 2179, .inl fw))] ∧ va_S A s.heap H locs ∧ lv_has ls 5 [(4, .int y7213), (3, .int y6813), (2, .int y7214), (0, .ref h), (1, .int mm)]) ((0 : Int32), y6814) ⟨(rg_w (rg_lit (n := 0) (by decide)) (by decide)), hP.sub (ws' := [(h, oX11 th aw ai ab ac hi re aP ta po en be de fa a5 sp av an ak ne aW aC ag aT aN aF), (aw, .inl (cI, 2179, .inl fw))]) [0, 1] rfl, hD.sub (ws' := [(h, oX11 th aw ai ab ac hi re aP ta po en be de fa a5 sp av an ak ne aW aC ag aT aN aF), (aw, .inl (cI, 2179, .inl fw))]) [0, 1] (by decide) rfl, hS, lv_sub (l' := [(4, .int 0), (3, .int y6813), (2, .int y6814), (0, .ref h), (1, .int mm)]) hl [0, 1, 2, 3, 4] rfl⟩ (fun u H locs ls hI ih7215 => ?_)
    clear hP hD hS hl
    obtain ⟨y7213, y7214⟩ := u
    obtain ⟨hy7213, hP, hD, hS, hl⟩ := hI
    have hP : va_P D vwCl [(h, oX11 th aw ai ab ac hi re aP ta po en be de fa a5 sp av an ak ne aW aC ag aT aN aF), (aw, .inl (cI, 2179, .inl fw))] H := hP
    have hD : va_D A [(h, oX11 th aw ai ab ac hi re aP ta po en be de fa a5 sp av an ak ne aW aC ag aT aN aF), (aw, .inl (cI, 2179, .inl fw))] := hD
    have hl : lv_has ls 5 [(4, .int y7213), (3, .int y6813), (2, .int y7214), (0, .ref h), (1, .int mm)] := hl
    refine lv_iload hx hb dX11_passed_15 (lv_at hl 0 rfl) ?_
    refine lv_aload_n hx hb dX11_passed_17 rfl (lv_at hl 3 rfl) ?_
    refine kpurei (wc := [(h, oX11 th aw ai ab ac hi re aP ta po en be de fa a5 sp av an ak ne aW aC ag aT aN aF), (aw, .inl (cI, 2179, .inl fw))]) hP hD hS hA [0, 1] rfl (by decide) (fun hPc hDc hFc => va_runV (As := []) (rest := [.int y7213]) ⟨hx, hb, hml, hown, hts⟩ (r_men l D cI cJ cB cC h th aw ai ab ac hi re aP ta po en be de fa a5 sp av an ak ne aW aC ag aT aN aF fw H.size H_fw_W) (cwV 0 hts gX11_passed_X11_men rfl rfl rfl ⟨rfl, hdX11_men⟩ ⟨Nat.le_of_ble_eq_true rfl, Nat.le_of_ble_eq_true rfl⟩) ⟨kBlind, va_recv hK hPc (ci := 10) (q0 := 0) rfl rfl, fun U hU hW => ⟨rfl, by rw [hU], hN.warm hW, hE.pass hS hFc hW hU, by rw [hU]; exact hPc, va_K.moved hW.alike hK, hDc⟩⟩ rfl rfl hl.1 rfl (lv_room (Nat.le_of_ble_eq_true rfl)) dX11_passed_18 ⟨Nat.le_of_ble_eq_true rfl, Nat.le_of_ble_eq_true rfl⟩) (fun r7216 u H locs hw hP hS => ?_)
    obtain ⟨k7217, k7218⟩ := hw
    obtain rfl : r6816 = r7216 := k6817.trans k7217.symm
    refine lv_icmp_ge (tgt := 59) hx hb dX11_passed_21 (by decide) (fun c7219 => ?_) (fun c7219 => ?_)
    · skip
      have k7220 : Rg y7213 1 10 := rg_e2 (leI c7219) k6821 hy7213 (by decide)
      obtain ⟨x7221, ex7221⟩ : ∃ y : Int32, y = y6813 + 1 := ⟨_, rfl⟩
      refine lv_iinc (v := x7221) (lv' := [(3, .int x7221), (4, .int y7213), (2, .int y7214), (0, .ref h), (1, .int mm)]) hx hb dX11_passed_59 hl (k := 1) rfl (by rw [ex7221]; rfl) (by decide) rfl (fun ls hl => ?_)
      have k7222 : Rg x7221 1 10 := rg_add ex7221 k6820 (rg_lit (n := 1) (by decide)) (by decide)
      refine lv_goto (tgt := 4) hx hb dX11_passed_62 (by decide) ?_
      exact ih6815 (x7221, y7214) _ _ _ (by show (10 - (x7221).toInt).toNat < (10 - (y6813).toInt).toNat; exact mu_up ex7221 k6820 k7222 (by decide)) ⟨(rg_w k7222 (by decide)), hP.sub (ws' := [(h, oX11 th aw ai ab ac hi re aP ta po en be de fa a5 sp av an ak ne aW aC ag aT aN aF), (aw, .inl (cI, 2179, .inl fw))]) [0, 1] rfl, hD.sub (ws' := [(h, oX11 th aw ai ab ac hi re aP ta po en be de fa a5 sp av an ak ne aW aC ag aT aN aF), (aw, .inl (cI, 2179, .inl fw))]) [0, 1] (by decide) rfl, hS, lv_sub (l' := [(3, .int x7221), (2, .int y7214), (0, .ref h), (1, .int mm)]) hl [0, 2, 3, 4] rfl⟩
    · skip
      have k7223 : Rg y7213 0 9 := rg_l1 (nleI c7219) hy7213 k6821 (by decide)
      refine lv_iload_n hx hb dX11_passed_24 rfl (lv_at hl 2 rfl) ?_
      refine lv_iload_n hx hb dX11_passed_25 rfl (lv_at hl 4 rfl) ?_
      refine lv_iload_n hx hb dX11_passed_26 rfl (lv_at hl 1 rfl) ?_
      refine kpurei (wc := []) hP hD hS hA [] rfl (by decide) (fun hPc hDc hFc => va_runS (As := [.int mm, .int y6813]) (rest := [.int y7214]) ⟨hx, hb, hml, hown, hts⟩ (r_has l D cI cJ cB cC mm y6813 H.size) (va_cwS 2 hts gX11_passed_X11_has rfl rfl rfl hdX11_has ⟨Nat.le_of_ble_eq_true rfl, Nat.le_of_ble_eq_true rfl⟩) ⟨kBlind, fun U hU hW => ⟨rfl, by rw [hU], hN.warm hW, hE.pass hS hFc hW hU, by rw [hU]; exact hPc, va_K.moved hW.alike hK, hDc⟩⟩ rfl rfl hl.1 rfl (lv_room (Nat.le_of_ble_eq_true rfl)) dX11_passed_27 ⟨Nat.le_of_ble_eq_true rfl, Nat.le_of_ble_eq_true rfl⟩) (fun r7224 u H locs hw hP hS => ?_)
      have k7225 := hw
      refine k_join (hd := 51) (cells2 := 0) (slots2 := 0) (fun (u : Int32 × Int32) => match u with | (z7238, z7239) => [.int z7238, .int z7239]) (fun (u : Int32 × Int32) (H : Heap) (locs : List Loc) (ls : Array Slot) => match u with | (z7238, z7239) => Rg z7238 0 512 ∧ va_P D vwCl [(h, oX11 th aw ai ab ac hi re aP ta po en be de fa a5 sp av an ak ne aW aC ag aT aN aF), (aw, .inl (cI, 2179, .inl fw))] H ∧ va_D A [(h, oX11 th aw ai ab ac hi re aP ta po en be de fa a5 sp av an ak ne aW aC ag aT aN aF), (aw, .inl (cI, 2179, .inl fw))] ∧ va_S A s.heap H locs ∧ lv_has ls 5 [(4, .int y7213), (3, .int y6813), (2, .int y7214), (0, .ref h), (1, .int mm)]) (fun u H locs ls hI => ?_) (fun hJ51 => ?_)
      · skip
        clear hP hD hS hl
        obtain ⟨z7238, z7239⟩ := u
        obtain ⟨hz7238, hP, hD, hS, hl⟩ := hI
        have hP : va_P D vwCl [(h, oX11 th aw ai ab ac hi re aP ta po en be de fa a5 sp av an ak ne aW aC ag aT aN aF), (aw, .inl (cI, 2179, .inl fw))] H := hP
        have hD : va_D A [(h, oX11 th aw ai ab ac hi re aP ta po en be de fa a5 sp av an ak ne aW aC ag aT aN aF), (aw, .inl (cI, 2179, .inl fw))] := hD
        have hl : lv_has ls 5 [(4, .int y7213), (3, .int y6813), (2, .int y7214), (0, .ref h), (1, .int mm)] := hl
        show W _ _ _ _ _ _ _ _ _ _ _ _ _ _ _ (F0 m 51 ls [.int z7238, .int z7239])
        refine lv_ior hx hb dX11_passed_51 ?_
        refine lv_topi (fun x7240 ex7240 => ?_)
        clear ex7240
        refine lv_istore_n (lv' := [(2, .int x7240), (4, .int y7213), (3, .int y6813), (0, .ref h), (1, .int mm)]) hx hb dX11_passed_52 rfl hl (by decide) rfl (fun ls hl => ?_)
        obtain ⟨x7241, ex7241⟩ : ∃ y : Int32, y = y7213 + 1 := ⟨_, rfl⟩
        refine lv_iinc (v := x7241) (lv' := [(4, .int x7241), (2, .int x7240), (3, .int y6813), (0, .ref h), (1, .int mm)]) hx hb dX11_passed_53 hl (k := 1) rfl (by rw [ex7241]; rfl) (by decide) rfl (fun ls hl => ?_)
        have k7242 : Rg x7241 1 10 := rg_add ex7241 k7223 (rg_lit (n := 1) (by decide)) (by decide)
        refine lv_goto (tgt := 15) hx hb dX11_passed_56 (by decide) ?_
        exact ih7215 (x7241, x7240) _ _ _ (by show (10 - (x7241).toInt).toNat < (10 - (y7213).toInt).toNat; exact mu_up ex7241 k7223 k7242 (by decide)) ⟨(rg_w k7242 (by decide)), hP.sub (ws' := [(h, oX11 th aw ai ab ac hi re aP ta po en be de fa a5 sp av an ak ne aW aC ag aT aN aF), (aw, .inl (cI, 2179, .inl fw))]) [0, 1] rfl, hD.sub (ws' := [(h, oX11 th aw ai ab ac hi re aP ta po en be de fa a5 sp av an ak ne aW aC ag aT aN aF), (aw, .inl (cI, 2179, .inl fw))]) [0, 1] (by decide) rfl, hS, lv_sub (l' := [(4, .int x7241), (3, .int y6813), (2, .int x7240), (0, .ref h), (1, .int mm)]) hl [0, 2, 1, 3, 4] rfl⟩
      refine k_join (hd := 50) (cells2 := 0) (slots2 := 0) (fun (z7243 : Int32) => [.int z7243]) (fun (z7243 : Int32) (H : Heap) (locs : List Loc) (ls : Array Slot) => va_P D vwCl [(h, oX11 th aw ai ab ac hi re aP ta po en be de fa a5 sp av an ak ne aW aC ag aT aN aF), (aw, .inl (cI, 2179, .inl fw))] H ∧ va_D A [(h, oX11 th aw ai ab ac hi re aP ta po en be de fa a5 sp av an ak ne aW aC ag aT aN aF), (aw, .inl (cI, 2179, .inl fw))] ∧ va_S A s.heap H locs ∧ lv_has ls 5 [(4, .int y7213), (3, .int y6813), (2, .int y7214), (0, .ref h), (1, .int mm)]) (fun u H locs ls hI => ?_) (fun hJ50 => ?_)
      · skip
        clear hP hD hS hl
        obtain ⟨z7243, rfl⟩ : ∃ z, z = u := ⟨_, rfl⟩
        obtain ⟨hP, hD, hS, hl⟩ := hI
        have hP : va_P D vwCl [(h, oX11 th aw ai ab ac hi re aP ta po en be de fa a5 sp av an ak ne aW aC ag aT aN aF), (aw, .inl (cI, 2179, .inl fw))] H := hP
        have hD : va_D A [(h, oX11 th aw ai ab ac hi re aP ta po en be de fa a5 sp av an ak ne aW aC ag aT aN aF), (aw, .inl (cI, 2179, .inl fw))] := hD
        have hl : lv_has ls 5 [(4, .int y7213), (3, .int y6813), (2, .int y7214), (0, .ref h), (1, .int mm)] := hl
        show W _ _ _ _ _ _ _ _ _ _ _ _ _ _ _ (F0 m 50 ls [.int z7243])
        refine lv_iconst (v := 0) hx hb dX11_passed_50 (by decide) ?_
        exact hJ51 ((0 : Int32), z7243) _ _ _ ⟨(rg_w (rg_lit (n := 0) (by decide)) (by decide)), hP.sub (ws' := [(h, oX11 th aw ai ab ac hi re aP ta po en be de fa a5 sp av an ak ne aW aC ag aT aN aF), (aw, .inl (cI, 2179, .inl fw))]) [0, 1] rfl, hD.sub (ws' := [(h, oX11 th aw ai ab ac hi re aP ta po en be de fa a5 sp av an ak ne aW aC ag aT aN aF), (aw, .inl (cI, 2179, .inl fw))]) [0, 1] (by decide) rfl, hS, lv_sub (l' := [(4, .int y7213), (3, .int y6813), (2, .int y7214), (0, .ref h), (1, .int mm)]) hl [0, 1, 2, 3, 4] rfl⟩
      refine lv_if_eq (tgt := 50) hx hb dX11_passed_30 (by decide) (fun c7244 => ?_) (fun c7244 => ?_)
      · skip
        have k7245 : Rg r7224 0 0 := rg_q1 (eqI c7244) k7225 (rg_lit (n := 0) (by decide)) (by decide)
        exact hJ50 (y7214) _ _ _ ⟨hP.sub (ws' := [(h, oX11 th aw ai ab ac hi re aP ta po en be de fa a5 sp av an ak ne aW aC ag aT aN aF), (aw, .inl (cI, 2179, .inl fw))]) [0, 1] rfl, hD.sub (ws' := [(h, oX11 th aw ai ab ac hi re aP ta po en be de fa a5 sp av an ak ne aW aC ag aT aN aF), (aw, .inl (cI, 2179, .inl fw))]) [0, 1] (by decide) rfl, hS, lv_sub (l' := [(4, .int y7213), (3, .int y6813), (2, .int y7214), (0, .ref h), (1, .int mm)]) hl [0, 1, 2, 3, 4] rfl⟩
      · skip
        have k7246 : Rg r7224 1 1 := rg_n1 (neI c7244) k7225 (rg_lit (n := 0) (by decide)) (by decide)
        refine lv_aload_n hx hb dX11_passed_33 rfl (lv_at hl 3 rfl) ?_
        refine lv_iload_n hx hb dX11_passed_34 rfl (lv_at hl 1 rfl) ?_
        refine lv_iload hx hb dX11_passed_35 (lv_at hl 0 rfl) ?_
        refine kpurei (wc := [(h, oX11 th aw ai ab ac hi re aP ta po en be de fa a5 sp av an ak ne aW aC ag aT aN aF), (aw, .inl (cI, 2179, .inl fw))]) hP hD hS hA [0, 1] rfl (by decide) (fun hPc hDc hFc => va_runV (As := [.int y6813, .int y7213]) (rest := [.int y7214]) ⟨hx, hb, hml, hown, hts⟩ (r_isNeighbour l D cI cJ cB cC h th aw ai ab ac hi re aP ta po en be de fa a5 sp av an ak ne aW aC ag aT aN aF fw y6813 y7213 H.size k6820 k7223 H_fw_W) (cwV 2 hts gX11_passed_X11_isNeighbour rfl rfl rfl ⟨rfl, hdX11_isNeighbour⟩ ⟨Nat.le_of_ble_eq_true rfl, Nat.le_of_ble_eq_true rfl⟩) ⟨kBlind, va_recv hK hPc (ci := 10) (q0 := 0) rfl rfl, fun U hU hW => ⟨rfl, by rw [hU], hN.warm hW, hE.pass hS hFc hW hU, by rw [hU]; exact hPc, va_K.moved hW.alike hK, hDc⟩⟩ rfl rfl hl.1 rfl (lv_room (Nat.le_of_ble_eq_true rfl)) dX11_passed_37 ⟨Nat.le_of_ble_eq_true rfl, Nat.le_of_ble_eq_true rfl⟩) (fun r7247 u H locs hw hP hS => ?_)
        rcases hw with rfl | rfl
        · skip
          refine lv_if_eq (tgt := 50) hx hb dX11_passed_40 (by decide) (fun _ => ?_) (fun c7249 => absurd (by decide) c7249)
          exact hJ50 (y7214) _ _ _ ⟨hP.sub (ws' := [(h, oX11 th aw ai ab ac hi re aP ta po en be de fa a5 sp av an ak ne aW aC ag aT aN aF), (aw, .inl (cI, 2179, .inl fw))]) [0, 1] rfl, hD.sub (ws' := [(h, oX11 th aw ai ab ac hi re aP ta po en be de fa a5 sp av an ak ne aW aC ag aT aN aF), (aw, .inl (cI, 2179, .inl fw))]) [0, 1] (by decide) rfl, hS, lv_sub (l' := [(4, .int y7213), (3, .int y6813), (2, .int y7214), (0, .ref h), (1, .int mm)]) hl [0, 1, 2, 3, 4] rfl⟩
        · skip
          refine lv_if_eq (tgt := 50) hx hb dX11_passed_40 (by decide) (fun c7250 => absurd c7250 (by decide)) (fun _ => ?_)
          refine lv_iconst (v := 1) hx hb dX11_passed_43 (by decide) ?_
          refine lv_iload hx hb dX11_passed_44 (lv_at hl 0 rfl) ?_
          refine lv_ishl hx hb dX11_passed_46 ?_
          refine lv_topi (fun x7251 ex7251 => ?_)
          have k7252 : Rg x7251 1 512 := rg_shl1 9 ex7251 k7223 (by decide)
          clear ex7251
          refine lv_goto (tgt := 51) hx hb dX11_passed_47 (by decide) ?_
          exact hJ51 (x7251, y7214) _ _ _ ⟨(rg_w k7252 (by decide)), hP.sub (ws' := [(h, oX11 th aw ai ab ac hi re aP ta po en be de fa a5 sp av an ak ne aW aC ag aT aN aF), (aw, .inl (cI, 2179, .inl fw))]) [0, 1] rfl, hD.sub (ws' := [(h, oX11 th aw ai ab ac hi re aP ta po en be de fa a5 sp av an ak ne aW aC ag aT aN aF), (aw, .inl (cI, 2179, .inl fw))]) [0, 1] (by decide) rfl, hS, lv_sub (l' := [(4, .int y7213), (3, .int y6813), (2, .int y7214), (0, .ref h), (1, .int mm)]) hl [0, 1, 2, 3, 4] rfl⟩

