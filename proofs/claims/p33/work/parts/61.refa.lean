def kwX11_isNeighbour : List Cond := .code yX11_isNeighbour cX11_isNeighbour 3 (some .boolean) :: kG
theorem hdX11_isNeighbour : yX11_isNeighbour.cls ≠ "java/lang/invoke/MethodHandle" ∧ yX11_isNeighbour.cls ≠ "java/lang/invoke/VarHandle" ∧ (parseMethodDescriptor yX11_isNeighbour.desc).map (fun d => d.parameters.length) = some 2 := by decide +kernel
theorem gX11_isNeighbour_X11_ofMan : GoodIn kG (wsV RX11 153 RX11 yX11_ofMan kwX11_ofMan) := gK w21_5 (gK w21_6 (gK w21_7 (gK w0_5 (gK w21_8 gGG))))
theorem dX11_isNeighbour_0 : decode cX11_isNeighbour 0 = .ok (.iload_n 1, 1) := by decide +kernel
theorem dX11_isNeighbour_1 : decode cX11_isNeighbour 1 = .ok (.iload_n 2, 1) := by decide +kernel
theorem dX11_isNeighbour_2 : decode cX11_isNeighbour 2 = .ok (.if_icmp .eq 33, 3) := by decide +kernel
theorem dX11_isNeighbour_5 : decode cX11_isNeighbour 5 = .ok (.aload_n 0, 1) := by decide +kernel
theorem dX11_isNeighbour_6 : decode cX11_isNeighbour 6 = .ok (.iload_n 1, 1) := by decide +kernel
theorem dX11_isNeighbour_7 : decode cX11_isNeighbour 7 = .ok (.iconst 0, 1) := by decide +kernel
theorem dX11_isNeighbour_8 : decode cX11_isNeighbour 8 = .ok (.invokevirtual 153, 3) := by decide +kernel
theorem dX11_isNeighbour_11 : decode cX11_isNeighbour 11 = .ok (.aload_n 0, 1) := by decide +kernel
theorem dX11_isNeighbour_12 : decode cX11_isNeighbour 12 = .ok (.iload_n 2, 1) := by decide +kernel
theorem dX11_isNeighbour_13 : decode cX11_isNeighbour 13 = .ok (.iconst 0, 1) := by decide +kernel
theorem dX11_isNeighbour_14 : decode cX11_isNeighbour 14 = .ok (.invokevirtual 153, 3) := by decide +kernel
theorem dX11_isNeighbour_17 : decode cX11_isNeighbour 17 = .ok (.isub, 1) := by decide +kernel
theorem dX11_isNeighbour_18 : decode cX11_isNeighbour 18 = .ok (.invokestatic 261, 3) := by decide +kernel
theorem dX11_isNeighbour_21 : decode cX11_isNeighbour 21 = .ok (.aload_n 0, 1) := by decide +kernel
theorem dX11_isNeighbour_22 : decode cX11_isNeighbour 22 = .ok (.getfield 13, 3) := by decide +kernel
theorem dX11_isNeighbour_25 : decode cX11_isNeighbour 25 = .ok (.bipush 6, 2) := by decide +kernel
theorem dX11_isNeighbour_27 : decode cX11_isNeighbour 27 = .ok (.iaload, 1) := by decide +kernel
theorem dX11_isNeighbour_28 : decode cX11_isNeighbour 28 = .ok (.if_icmp .gt 7, 3) := by decide +kernel
theorem dX11_isNeighbour_31 : decode cX11_isNeighbour 31 = .ok (.iconst 1, 1) := by decide +kernel
theorem dX11_isNeighbour_32 : decode cX11_isNeighbour 32 = .ok (.goto 4, 3) := by decide +kernel
theorem dX11_isNeighbour_35 : decode cX11_isNeighbour 35 = .ok (.iconst 0, 1) := by decide +kernel
theorem dX11_isNeighbour_36 : decode cX11_isNeighbour 36 = .ok (.ireturn, 1) := by decide +kernel
set_option maxHeartbeats 4000000 in
set_option maxRecDepth 100000 in
/-- reference: isNeighbour -/
theorem r_isNeighbour (l : Launch) (D : va_G) (cI cJ cB cC : ClassId) (h : Nat) (th : Int32) (aw : Nat) (ai : Nat) (ab : Nat) (ac : Nat) (hi : Int32) (re : Int32) (aP : Nat) (ta : Int32) (po : Int32) (en : Int32) (be : Int32) (de : Int32) (fa : Int32) (a5 : Nat) (sp : Int32) (av : Nat) (an : Nat) (ak : Nat) (ne : Int32) (aW : Nat) (aC : Nat) (ag : Nat) (aT : Nat) (aN : Nat) (aF : Nat) (fw : Nat → Int32) (mm : Int32) (b : Int32) (sz : Nat) (H_mm : Rg mm 0 9) (H_b : Rg b 0 9) (H_fw_W : wW fw) : Met l yX11_isNeighbour kwX11_isNeighbour ({ frames := 1, cells := 0, slots := 0, locals := 22 } : Room) (kPre D (kT cI cJ cB cC) sz [(h, oX11 th aw ai ab ac hi re aP ta po en be de fa a5 sp av an ak ne aW aC ag aT aN aF), (aw, .inl (cI, 2179, .inl fw))] [.ref h, .int mm, .int b]) (va_Qi (fun (r : Int32) (_ : Unit) => (r = 0) ∨ (r = 1)) (fun (_ : Unit) (t : State) => kB D (kT cI cJ cB cC) (va_A [(h, oX11 th aw ai ab ac hi re aP ta po en be de fa a5 sp av an ak ne aW aC ag aT aN aF), (aw, .inl (cI, 2179, .inl fw))] sz) [(h, oX11 th aw ai ab ac hi re aP ta po en be de fa a5 sp av an ak ne aW aC ag aT aN aF), (aw, .inl (cI, 2179, .inl fw))] t) (va_A [(h, oX11 th aw ai ab ac hi re aP ta po en be de fa a5 sp av an ak ne aW aC ag aT aN aF), (aw, .inl (cI, 2179, .inl fw))] sz)) 0 0 (va_A [(h, oX11 th aw ai ab ac hi re aP ta po en be de fa a5 sp av an ak ne aW aC ag aT aN aF), (aw, .inl (cI, 2179, .inl fw))] sz) := by
  refine Met.ofW (cc := cX11_isNeighbour) (maxL := 3) (ret := (some .boolean)) (by decide) rfl ?_
  intro p e s m args below meth c s₁ B hml hv
  obtain ⟨rfl, hsz, hN, hE, hP, hK, hD0⟩ := hv
  have hx := B.exec
  have hb := B.bytes
  have hr := B.returns
  have hts := fun (w : Cond) (h : w ∈ kG) => atoms_spec (ws := kwX11_isNeighbour) B.pre w (List.mem_cons_of_mem _ h)
  have hown : s.vm.findClass RX11 = some m.cls := findClass_of_methodNamed B.named
  subst hsz
  have hD := hD0.self (sz := s.heap.size)
  generalize hAe : va_A [(h, oX11 th aw ai ab ac hi re aP ta po en be de fa a5 sp av an ak ne aW aC ag aT aN aF), (aw, .inl (cI, 2179, .inl fw))] s.heap.size = A at hD hE ⊢
  have hA : ∀ q : Nat, s.heap.size ≤ q → A q := fun q h => by rw [← hAe]; exact Or.inr h
  have hl := lv_entry ([.ref h, .int mm, .int b]) (n := 3) (Nat.le_of_ble_eq_true rfl)
  rw [lg_entry_eq]
  generalize (lg_sl ([.ref h, .int mm, .int b]) ++ List.replicate (3 - (lg_sl ([.ref h, .int mm, .int b])).length) Slot.unset).toArray = ls at hl ⊢
  have hl : lv_has ls 3 [(0, .ref h), (1, .int mm), (2, .int b)] := hl
  obtain ⟨H, hH0⟩ : ∃ H, H = s.heap := ⟨_, rfl⟩
  have hS : va_S A s.heap H [] := by rw [hH0]; exact va_S.rf
  have hP : va_P D vwCl [(h, oX11 th aw ai ab ac hi re aP ta po en be de fa a5 sp av an ak ne aW aC ag aT aN aF), (aw, .inl (cI, 2179, .inl fw))] H := by rw [hH0]; exact hP
  refine kHeap hH0 ?_
  clear hH0
  refine lv_iload_n hx hb dX11_isNeighbour_0 rfl (lv_at hl 1 rfl) ?_
  refine lv_iload_n hx hb dX11_isNeighbour_1 rfl (lv_at hl 2 rfl) ?_
  refine k_join (hd := 35) (cells2 := 0) (slots2 := 0) (fun (_ : Unit) => []) (fun (_ : Unit) (H : Heap) (locs : List Loc) (ls : Array Slot) => va_P D vwCl [(h, oX11 th aw ai ab ac hi re aP ta po en be de fa a5 sp av an ak ne aW aC ag aT aN aF), (aw, .inl (cI, 2179, .inl fw))] H ∧ va_D A [(h, oX11 th aw ai ab ac hi re aP ta po en be de fa a5 sp av an ak ne aW aC ag aT aN aF), (aw, .inl (cI, 2179, .inl fw))] ∧ va_S A s.heap H locs ∧ lv_has ls 3 [(0, .ref h), (1, .int mm), (2, .int b)]) (fun u H locs ls hI => ?_) (fun hJ35 => ?_)
  · skip
    clear hP hD hS hl
    obtain ⟨hP, hD, hS, hl⟩ := hI
    have hP : va_P D vwCl [(h, oX11 th aw ai ab ac hi re aP ta po en be de fa a5 sp av an ak ne aW aC ag aT aN aF), (aw, .inl (cI, 2179, .inl fw))] H := hP
    have hD : va_D A [(h, oX11 th aw ai ab ac hi re aP ta po en be de fa a5 sp av an ak ne aW aC ag aT aN aF), (aw, .inl (cI, 2179, .inl fw))] := hD
    have hl : lv_has ls 3 [(0, .ref h), (1, .int mm), (2, .int b)] := hl
    refine lv_iconst (v := 0) hx hb dX11_isNeighbour_35 (by decide) ?_
    have hP9 := hP.sub (ws' := [(h, oX11 th aw ai ab ac hi re aP ta po en be de fa a5 sp av an ak ne aW aC ag aT aN aF), (aw, .inl (cI, 2179, .inl fw))]) [0, 1] rfl
    have hD9 := hD.sub (ws' := [(h, oX11 th aw ai ab ac hi re aP ta po en be de fa a5 sp av an ak ne aW aC ag aT aN aF), (aw, .inl (cI, 2179, .inl fw))]) [0, 1] (by decide) rfl
    exact W.zret (v := 0) hx hb hr (by decide) (fun t ht hW => ⟨⟨0, (), rfl, (Or.inl rfl), by rw [ht]; exact hP9, va_K.moved hW.alike hK, hD9⟩, hS.F ht⟩) hS.2.2 dX11_isNeighbour_36
  refine lv_icmp_eq (tgt := 35) hx hb dX11_isNeighbour_2 (by decide) (fun c12 => ?_) (fun c12 => ?_)
  · skip
    exact hJ35 () _ _ _ ⟨hP.sub (ws' := [(h, oX11 th aw ai ab ac hi re aP ta po en be de fa a5 sp av an ak ne aW aC ag aT aN aF), (aw, .inl (cI, 2179, .inl fw))]) [0, 1] rfl, hD.sub (ws' := [(h, oX11 th aw ai ab ac hi re aP ta po en be de fa a5 sp av an ak ne aW aC ag aT aN aF), (aw, .inl (cI, 2179, .inl fw))]) [0, 1] (by decide) rfl, hS, lv_sub (l' := [(0, .ref h), (1, .int mm), (2, .int b)]) hl [0, 1, 2] rfl⟩
  · skip
    refine lv_aload_n hx hb dX11_isNeighbour_5 rfl (lv_at hl 0 rfl) ?_
    refine lv_iload_n hx hb dX11_isNeighbour_6 rfl (lv_at hl 1 rfl) ?_
    refine lv_iconst (v := 0) hx hb dX11_isNeighbour_7 (by decide) ?_
    refine kpurei (wc := [(h, oX11 th aw ai ab ac hi re aP ta po en be de fa a5 sp av an ak ne aW aC ag aT aN aF), (aw, .inl (cI, 2179, .inl fw))]) hP hD hS hA [0, 1] rfl (by decide) (fun hPc hDc hFc => va_runV (As := [.int mm, .int 0]) (rest := []) ⟨hx, hb, hml, hown, hts⟩ (r_ofMan0 l D cI cJ cB cC h th aw ai ab ac hi re aP ta po en be de fa a5 sp av an ak ne aW aC ag aT aN aF fw mm H.size H_mm H_fw_W) (cwV 2 hts gX11_isNeighbour_X11_ofMan rfl rfl rfl ⟨rfl, hdX11_ofMan⟩ ⟨Nat.le_of_ble_eq_true rfl, Nat.le_of_ble_eq_true rfl⟩) ⟨kBlind, va_recv hK hPc (ci := 10) (q0 := 0) rfl rfl, fun U hU hW => ⟨rfl, by rw [hU], hN.warm hW, hE.pass hS hFc hW hU, by rw [hU]; exact hPc, va_K.moved hW.alike hK, hDc⟩⟩ rfl rfl hl.1 rfl (lv_room (Nat.le_of_ble_eq_true rfl)) dX11_isNeighbour_8 ⟨Nat.le_of_ble_eq_true rfl, Nat.le_of_ble_eq_true rfl⟩) (fun r13 u H locs hw hP hS => ?_)
    have k14 := hw
    refine lv_aload_n hx hb dX11_isNeighbour_11 rfl (lv_at hl 0 rfl) ?_
    refine lv_iload_n hx hb dX11_isNeighbour_12 rfl (lv_at hl 2 rfl) ?_
    refine lv_iconst (v := 0) hx hb dX11_isNeighbour_13 (by decide) ?_
    refine kpurei (wc := [(h, oX11 th aw ai ab ac hi re aP ta po en be de fa a5 sp av an ak ne aW aC ag aT aN aF), (aw, .inl (cI, 2179, .inl fw))]) hP hD hS hA [0, 1] rfl (by decide) (fun hPc hDc hFc => va_runV (As := [.int b, .int 0]) (rest := [.int r13]) ⟨hx, hb, hml, hown, hts⟩ (r_ofMan0 l D cI cJ cB cC h th aw ai ab ac hi re aP ta po en be de fa a5 sp av an ak ne aW aC ag aT aN aF fw b H.size H_b H_fw_W) (cwV 2 hts gX11_isNeighbour_X11_ofMan rfl rfl rfl ⟨rfl, hdX11_ofMan⟩ ⟨Nat.le_of_ble_eq_true rfl, Nat.le_of_ble_eq_true rfl⟩) ⟨kBlind, va_recv hK hPc (ci := 10) (q0 := 0) rfl rfl, fun U hU hW => ⟨rfl, by rw [hU], hN.warm hW, hE.pass hS hFc hW hU, by rw [hU]; exact hPc, va_K.moved hW.alike hK, hDc⟩⟩ rfl rfl hl.1 rfl (lv_room (Nat.le_of_ble_eq_true rfl)) dX11_isNeighbour_14 ⟨Nat.le_of_ble_eq_true rfl, Nat.le_of_ble_eq_true rfl⟩) (fun r15 u H locs hw hP hS => ?_)
    have k16 := hw
    refine lv_isub hx hb dX11_isNeighbour_17 ?_
    refine lv_topi (fun x17 ex17 => ?_)
    clear ex17
    refine va_mabs hx hb (by rw [hml]; exact hl.1.symm) hown (hts _ w27_15) (hts _ w26_22) (hts _ w8_7) (hts _ w26_23) (Nat.le_of_ble_eq_true rfl) (Nat.le_of_ble_eq_true rfl) (Nat.le_of_ble_eq_true rfl) (Nat.le_of_ble_eq_true rfl) dX11_isNeighbour_18 ?_
    refine lv_topi (fun x18 ex18 => ?_)
    clear ex18
    refine lv_aload_n hx hb dX11_isNeighbour_21 rfl (lv_at hl 0 rfl) ?_
    refine va_get (D := D) (ci := 10) (v := .ref aw) (C := RX11) (T := TX11) (N := 26) hx hb hts iG_X11 hown hK hP 0 rfl rfl 1 (by decide) (hts _ w5_3) (fun _ h9 => h9) rfl dX11_isNeighbour_22 ?_
    refine lv_bipush (v := 6) hx hb dX11_isNeighbour_25 (by decide) ?_
    refine va_iald hx hb hK hP 1 0 rfl rfl (rg_in (rg_lit (n := 6) (by decide)) (by decide)) dX11_isNeighbour_27 ?_
    refine lv_topi (fun x19 ex19 => ?_)
    clear ex19
    refine lv_icmp_gt (tgt := 35) hx hb dX11_isNeighbour_28 (by decide) (fun c20 => ?_) (fun c20 => ?_)
    · skip
      have k21 : Rg x18 (-2147483647) 2147483647 := rg_l2 (ltI c20) (rg_any x19) (rg_any x18) (by decide)
      have k22 : Rg x19 (-2147483648) 2147483646 := rg_l1 (ltI c20) (rg_any x19) (rg_any x18) (by decide)
      exact hJ35 () _ _ _ ⟨hP.sub (ws' := [(h, oX11 th aw ai ab ac hi re aP ta po en be de fa a5 sp av an ak ne aW aC ag aT aN aF), (aw, .inl (cI, 2179, .inl fw))]) [0, 1] rfl, hD.sub (ws' := [(h, oX11 th aw ai ab ac hi re aP ta po en be de fa a5 sp av an ak ne aW aC ag aT aN aF), (aw, .inl (cI, 2179, .inl fw))]) [0, 1] (by decide) rfl, hS, lv_sub (l' := [(0, .ref h), (1, .int mm), (2, .int b)]) hl [0, 1, 2] rfl⟩
    · skip
      refine lv_iconst (v := 1) hx hb dX11_isNeighbour_31 (by decide) ?_
      refine lv_goto (tgt := 36) hx hb dX11_isNeighbour_32 (by decide) ?_
      have hP9 := hP.sub (ws' := [(h, oX11 th aw ai ab ac hi re aP ta po en be de fa a5 sp av an ak ne aW aC ag aT aN aF), (aw, .inl (cI, 2179, .inl fw))]) [0, 1] rfl
      have hD9 := hD.sub (ws' := [(h, oX11 th aw ai ab ac hi re aP ta po en be de fa a5 sp av an ak ne aW aC ag aT aN aF), (aw, .inl (cI, 2179, .inl fw))]) [0, 1] (by decide) rfl
      exact W.zret (v := 1) hx hb hr (by decide) (fun t ht hW => ⟨⟨1, (), rfl, (Or.inr rfl), by rw [ht]; exact hP9, va_K.moved hW.alike hK, hD9⟩, hS.F ht⟩) hS.2.2 dX11_isNeighbour_36

def kwX11_isNextToLast : List Cond := .code yX11_isNextToLast cX11_isNextToLast 3 (some .boolean) :: kG
theorem hdX11_isNextToLast : yX11_isNextToLast.cls ≠ "java/lang/invoke/MethodHandle" ∧ yX11_isNextToLast.cls ≠ "java/lang/invoke/VarHandle" ∧ (parseMethodDescriptor yX11_isNextToLast.desc).map (fun d => d.parameters.length) = some 2 := by decide +kernel
theorem gX11_isNextToLast_X11_isNeighbour : GoodIn kG (wsV RX11 267 RX11 yX11_isNeighbour kwX11_isNeighbour) := gK w27_11 (gK w27_12 (gK w27_13 (gK w0_5 (gK w27_14 gGG))))
theorem gX11_isNextToLast_X11_of : GoodIn kG (wsV RX11 156 RX11 yX11_of kwX11_of) := gK w21_9 (gK w21_10 (gK w21_11 (gK w0_5 (gK w21_12 gGG))))
theorem dX11_isNextToLast_0 : decode cX11_isNextToLast 0 = .ok (.aload_n 0, 1) := by decide +kernel
theorem dX11_isNextToLast_1 : decode cX11_isNextToLast 1 = .ok (.iload_n 2, 1) := by decide +kernel
theorem dX11_isNextToLast_2 : decode cX11_isNextToLast 2 = .ok (.bipush 6, 2) := by decide +kernel
theorem dX11_isNextToLast_4 : decode cX11_isNextToLast 4 = .ok (.invokevirtual 156, 3) := by decide +kernel
theorem dX11_isNextToLast_7 : decode cX11_isNextToLast 7 = .ok (.ifCond .lt 22, 3) := by decide +kernel
theorem dX11_isNextToLast_10 : decode cX11_isNextToLast 10 = .ok (.aload_n 0, 1) := by decide +kernel
theorem dX11_isNextToLast_11 : decode cX11_isNextToLast 11 = .ok (.iload_n 1, 1) := by decide +kernel
theorem dX11_isNextToLast_12 : decode cX11_isNextToLast 12 = .ok (.aload_n 0, 1) := by decide +kernel
theorem dX11_isNextToLast_13 : decode cX11_isNextToLast 13 = .ok (.iload_n 2, 1) := by decide +kernel
theorem dX11_isNextToLast_14 : decode cX11_isNextToLast 14 = .ok (.bipush 6, 2) := by decide +kernel
theorem dX11_isNextToLast_16 : decode cX11_isNextToLast 16 = .ok (.invokevirtual 156, 3) := by decide +kernel
theorem dX11_isNextToLast_19 : decode cX11_isNextToLast 19 = .ok (.invokevirtual 267, 3) := by decide +kernel
theorem dX11_isNextToLast_22 : decode cX11_isNextToLast 22 = .ok (.ifCond .eq 7, 3) := by decide +kernel
theorem dX11_isNextToLast_25 : decode cX11_isNextToLast 25 = .ok (.iconst 1, 1) := by decide +kernel
theorem dX11_isNextToLast_26 : decode cX11_isNextToLast 26 = .ok (.goto 4, 3) := by decide +kernel
theorem dX11_isNextToLast_29 : decode cX11_isNextToLast 29 = .ok (.iconst 0, 1) := by decide +kernel
theorem dX11_isNextToLast_30 : decode cX11_isNextToLast 30 = .ok (.ireturn, 1) := by decide +kernel
set_option maxHeartbeats 4000000 in
set_option maxRecDepth 100000 in
/-- reference: isNextToLast -/
theorem r_isNextToLast (l : Launch) (D : va_G) (cI cJ cB cC : ClassId) (h : Nat) (th : Int32) (aw : Nat) (ai : Nat) (ab : Nat) (ac : Nat) (hi : Int32) (re : Int32) (aP : Nat) (ta : Int32) (po : Int32) (en : Int32) (be : Int32) (de : Int32) (fa : Int32) (a5 : Nat) (sp : Int32) (av : Nat) (an : Nat) (ak : Nat) (ne : Int32) (aW : Nat) (aC : Nat) (ag : Nat) (aT : Nat) (aN : Nat) (aF : Nat) (fw : Nat → Int32) (mm : Int32) (b : Int32) (sz : Nat) (H_mm : Rg mm 0 9) (H_b : Rg b 0 11) (H_fw_W : wW fw) : Met l yX11_isNextToLast kwX11_isNextToLast ({ frames := 2, cells := 0, slots := 0, locals := 44 } : Room) (kPre D (kT cI cJ cB cC) sz [(h, oX11 th aw ai ab ac hi re aP ta po en be de fa a5 sp av an ak ne aW aC ag aT aN aF), (aw, .inl (cI, 2179, .inl fw))] [.ref h, .int mm, .int b]) (va_Qi (fun (r : Int32) (_ : Unit) => (r = 0) ∨ (r = 1)) (fun (_ : Unit) (t : State) => kB D (kT cI cJ cB cC) (va_A [(h, oX11 th aw ai ab ac hi re aP ta po en be de fa a5 sp av an ak ne aW aC ag aT aN aF), (aw, .inl (cI, 2179, .inl fw))] sz) [(h, oX11 th aw ai ab ac hi re aP ta po en be de fa a5 sp av an ak ne aW aC ag aT aN aF), (aw, .inl (cI, 2179, .inl fw))] t) (va_A [(h, oX11 th aw ai ab ac hi re aP ta po en be de fa a5 sp av an ak ne aW aC ag aT aN aF), (aw, .inl (cI, 2179, .inl fw))] sz)) 0 0 (va_A [(h, oX11 th aw ai ab ac hi re aP ta po en be de fa a5 sp av an ak ne aW aC ag aT aN aF), (aw, .inl (cI, 2179, .inl fw))] sz) := by
  refine Met.ofW (cc := cX11_isNextToLast) (maxL := 3) (ret := (some .boolean)) (by decide) rfl ?_
  intro p e s m args below meth c s₁ B hml hv
  obtain ⟨rfl, hsz, hN, hE, hP, hK, hD0⟩ := hv
  have hx := B.exec
  have hb := B.bytes
  have hr := B.returns
  have hts := fun (w : Cond) (h : w ∈ kG) => atoms_spec (ws := kwX11_isNextToLast) B.pre w (List.mem_cons_of_mem _ h)
  have hown : s.vm.findClass RX11 = some m.cls := findClass_of_methodNamed B.named
  subst hsz
  have hD := hD0.self (sz := s.heap.size)
  generalize hAe : va_A [(h, oX11 th aw ai ab ac hi re aP ta po en be de fa a5 sp av an ak ne aW aC ag aT aN aF), (aw, .inl (cI, 2179, .inl fw))] s.heap.size = A at hD hE ⊢
  have hA : ∀ q : Nat, s.heap.size ≤ q → A q := fun q h => by rw [← hAe]; exact Or.inr h
  have hl := lv_entry ([.ref h, .int mm, .int b]) (n := 3) (Nat.le_of_ble_eq_true rfl)
  rw [lg_entry_eq]
  generalize (lg_sl ([.ref h, .int mm, .int b]) ++ List.replicate (3 - (lg_sl ([.ref h, .int mm, .int b])).length) Slot.unset).toArray = ls at hl ⊢
  have hl : lv_has ls 3 [(0, .ref h), (1, .int mm), (2, .int b)] := hl
  obtain ⟨H, hH0⟩ : ∃ H, H = s.heap := ⟨_, rfl⟩
  have hS : va_S A s.heap H [] := by rw [hH0]; exact va_S.rf
  have hP : va_P D vwCl [(h, oX11 th aw ai ab ac hi re aP ta po en be de fa a5 sp av an ak ne aW aC ag aT aN aF), (aw, .inl (cI, 2179, .inl fw))] H := by rw [hH0]; exact hP
  refine kHeap hH0 ?_
  clear hH0
  refine lv_aload_n hx hb dX11_isNextToLast_0 rfl (lv_at hl 0 rfl) ?_
  refine lv_iload_n hx hb dX11_isNextToLast_1 rfl (lv_at hl 2 rfl) ?_
  refine lv_bipush (v := 6) hx hb dX11_isNextToLast_2 (by decide) ?_
  refine kpurei (wc := [(h, oX11 th aw ai ab ac hi re aP ta po en be de fa a5 sp av an ak ne aW aC ag aT aN aF), (aw, .inl (cI, 2179, .inl fw))]) hP hD hS hA [0, 1] rfl (by decide) (fun hPc hDc hFc => va_runV (As := [.int b, .int 6]) (rest := []) ⟨hx, hb, hml, hown, hts⟩ (r_of6 l D cI cJ cB cC h th aw ai ab ac hi re aP ta po en be de fa a5 sp av an ak ne aW aC ag aT aN aF fw b H.size H_b H_fw_W) (cwV 2 hts gX11_isNextToLast_X11_of rfl rfl rfl ⟨rfl, hdX11_of⟩ ⟨Nat.le_of_ble_eq_true rfl, Nat.le_of_ble_eq_true rfl⟩) ⟨kBlind, va_recv hK hPc (ci := 10) (q0 := 0) rfl rfl, fun U hU hW => ⟨rfl, by rw [hU], hN.warm hW, hE.pass hS hFc hW hU, by rw [hU]; exact hPc, va_K.moved hW.alike hK, hDc⟩⟩ rfl rfl hl.1 rfl (lv_room (Nat.le_of_ble_eq_true rfl)) dX11_isNextToLast_4 ⟨Nat.le_of_ble_eq_true rfl, Nat.le_of_ble_eq_true rfl⟩) (fun r1 u H locs hw hP hS => ?_)
  obtain ⟨k2, k3⟩ := hw
  refine k_join (hd := 29) (cells2 := 0) (slots2 := 0) (fun (_ : Unit) => []) (fun (_ : Unit) (H : Heap) (locs : List Loc) (ls : Array Slot) => va_P D vwCl [(h, oX11 th aw ai ab ac hi re aP ta po en be de fa a5 sp av an ak ne aW aC ag aT aN aF), (aw, .inl (cI, 2179, .inl fw))] H ∧ va_D A [(h, oX11 th aw ai ab ac hi re aP ta po en be de fa a5 sp av an ak ne aW aC ag aT aN aF), (aw, .inl (cI, 2179, .inl fw))] ∧ va_S A s.heap H locs ∧ lv_has ls 3 [(0, .ref h), (1, .int mm), (2, .int b)]) (fun u H locs ls hI => ?_) (fun hJ29 => ?_)
  · skip
    clear hP hD hS hl
    obtain ⟨hP, hD, hS, hl⟩ := hI
    have hP : va_P D vwCl [(h, oX11 th aw ai ab ac hi re aP ta po en be de fa a5 sp av an ak ne aW aC ag aT aN aF), (aw, .inl (cI, 2179, .inl fw))] H := hP
    have hD : va_D A [(h, oX11 th aw ai ab ac hi re aP ta po en be de fa a5 sp av an ak ne aW aC ag aT aN aF), (aw, .inl (cI, 2179, .inl fw))] := hD
    have hl : lv_has ls 3 [(0, .ref h), (1, .int mm), (2, .int b)] := hl
    refine lv_iconst (v := 0) hx hb dX11_isNextToLast_29 (by decide) ?_
    have hP9 := hP.sub (ws' := [(h, oX11 th aw ai ab ac hi re aP ta po en be de fa a5 sp av an ak ne aW aC ag aT aN aF), (aw, .inl (cI, 2179, .inl fw))]) [0, 1] rfl
    have hD9 := hD.sub (ws' := [(h, oX11 th aw ai ab ac hi re aP ta po en be de fa a5 sp av an ak ne aW aC ag aT aN aF), (aw, .inl (cI, 2179, .inl fw))]) [0, 1] (by decide) rfl
    exact W.zret (v := 0) hx hb hr (by decide) (fun t ht hW => ⟨⟨0, (), rfl, (Or.inl rfl), by rw [ht]; exact hP9, va_K.moved hW.alike hK, hD9⟩, hS.F ht⟩) hS.2.2 dX11_isNextToLast_30
  refine lv_if_lt (tgt := 29) hx hb dX11_isNextToLast_7 (by decide) (fun c14 => ?_) (fun c14 => ?_)
  · skip
    have k15 : Rg r1 (-1) (-1) := rg_l1 (ltI c14) k3 (rg_lit (n := 0) (by decide)) (by decide)
    exact hJ29 () _ _ _ ⟨hP.sub (ws' := [(h, oX11 th aw ai ab ac hi re aP ta po en be de fa a5 sp av an ak ne aW aC ag aT aN aF), (aw, .inl (cI, 2179, .inl fw))]) [0, 1] rfl, hD.sub (ws' := [(h, oX11 th aw ai ab ac hi re aP ta po en be de fa a5 sp av an ak ne aW aC ag aT aN aF), (aw, .inl (cI, 2179, .inl fw))]) [0, 1] (by decide) rfl, hS, lv_sub (l' := [(0, .ref h), (1, .int mm), (2, .int b)]) hl [0, 1, 2] rfl⟩
  · skip
    have k16 : Rg r1 0 9 := rg_e2 (nltI c14) (rg_lit (n := 0) (by decide)) k3 (by decide)
    refine lv_aload_n hx hb dX11_isNextToLast_10 rfl (lv_at hl 0 rfl) ?_
    refine lv_iload_n hx hb dX11_isNextToLast_11 rfl (lv_at hl 1 rfl) ?_
    refine lv_aload_n hx hb dX11_isNextToLast_12 rfl (lv_at hl 0 rfl) ?_
    refine lv_iload_n hx hb dX11_isNextToLast_13 rfl (lv_at hl 2 rfl) ?_
    refine lv_bipush (v := 6) hx hb dX11_isNextToLast_14 (by decide) ?_
    refine kpurei (wc := [(h, oX11 th aw ai ab ac hi re aP ta po en be de fa a5 sp av an ak ne aW aC ag aT aN aF), (aw, .inl (cI, 2179, .inl fw))]) hP hD hS hA [0, 1] rfl (by decide) (fun hPc hDc hFc => va_runV (As := [.int b, .int 6]) (rest := [.int mm, .ref h]) ⟨hx, hb, hml, hown, hts⟩ (r_of6 l D cI cJ cB cC h th aw ai ab ac hi re aP ta po en be de fa a5 sp av an ak ne aW aC ag aT aN aF fw b H.size H_b H_fw_W) (cwV 2 hts gX11_isNextToLast_X11_of rfl rfl rfl ⟨rfl, hdX11_of⟩ ⟨Nat.le_of_ble_eq_true rfl, Nat.le_of_ble_eq_true rfl⟩) ⟨kBlind, va_recv hK hPc (ci := 10) (q0 := 0) rfl rfl, fun U hU hW => ⟨rfl, by rw [hU], hN.warm hW, hE.pass hS hFc hW hU, by rw [hU]; exact hPc, va_K.moved hW.alike hK, hDc⟩⟩ rfl rfl hl.1 rfl (lv_room (Nat.le_of_ble_eq_true rfl)) dX11_isNextToLast_16 ⟨Nat.le_of_ble_eq_true rfl, Nat.le_of_ble_eq_true rfl⟩) (fun r17 u H locs hw hP hS => ?_)
    obtain ⟨k18, k19⟩ := hw
    obtain rfl : r1 = r17 := k2.trans k18.symm
    refine kpurei (wc := [(h, oX11 th aw ai ab ac hi re aP ta po en be de fa a5 sp av an ak ne aW aC ag aT aN aF), (aw, .inl (cI, 2179, .inl fw))]) hP hD hS hA [0, 1] rfl (by decide) (fun hPc hDc hFc => va_runV (As := [.int mm, .int r1]) (rest := []) ⟨hx, hb, hml, hown, hts⟩ (r_isNeighbour l D cI cJ cB cC h th aw ai ab ac hi re aP ta po en be de fa a5 sp av an ak ne aW aC ag aT aN aF fw mm r1 H.size H_mm k16 H_fw_W) (cwV 2 hts gX11_isNextToLast_X11_isNeighbour rfl rfl rfl ⟨rfl, hdX11_isNeighbour⟩ ⟨Nat.le_of_ble_eq_true rfl, Nat.le_of_ble_eq_true rfl⟩) ⟨kBlind, va_recv hK hPc (ci := 10) (q0 := 0) rfl rfl, fun U hU hW => ⟨rfl, by rw [hU], hN.warm hW, hE.pass hS hFc hW hU, by rw [hU]; exact hPc, va_K.moved hW.alike hK, hDc⟩⟩ rfl rfl hl.1 rfl (lv_room (Nat.le_of_ble_eq_true rfl)) dX11_isNextToLast_19 ⟨Nat.le_of_ble_eq_true rfl, Nat.le_of_ble_eq_true rfl⟩) (fun r20 u H locs hw hP hS => ?_)
    rcases hw with rfl | rfl
    · skip
      refine lv_if_eq (tgt := 29) hx hb dX11_isNextToLast_22 (by decide) (fun _ => ?_) (fun c22 => absurd (by decide) c22)
      exact hJ29 () _ _ _ ⟨hP.sub (ws' := [(h, oX11 th aw ai ab ac hi re aP ta po en be de fa a5 sp av an ak ne aW aC ag aT aN aF), (aw, .inl (cI, 2179, .inl fw))]) [0, 1] rfl, hD.sub (ws' := [(h, oX11 th aw ai ab ac hi re aP ta po en be de fa a5 sp av an ak ne aW aC ag aT aN aF), (aw, .inl (cI, 2179, .inl fw))]) [0, 1] (by decide) rfl, hS, lv_sub (l' := [(0, .ref h), (1, .int mm), (2, .int b)]) hl [0, 1, 2] rfl⟩
    · skip
      refine lv_if_eq (tgt := 29) hx hb dX11_isNextToLast_22 (by decide) (fun c23 => absurd c23 (by decide)) (fun _ => ?_)
      refine lv_iconst (v := 1) hx hb dX11_isNextToLast_25 (by decide) ?_
      refine lv_goto (tgt := 30) hx hb dX11_isNextToLast_26 (by decide) ?_
      have hP9 := hP.sub (ws' := [(h, oX11 th aw ai ab ac hi re aP ta po en be de fa a5 sp av an ak ne aW aC ag aT aN aF), (aw, .inl (cI, 2179, .inl fw))]) [0, 1] rfl
      have hD9 := hD.sub (ws' := [(h, oX11 th aw ai ab ac hi re aP ta po en be de fa a5 sp av an ak ne aW aC ag aT aN aF), (aw, .inl (cI, 2179, .inl fw))]) [0, 1] (by decide) rfl
      exact W.zret (v := 1) hx hb hr (by decide) (fun t ht hW => ⟨⟨1, (), rfl, (Or.inr rfl), by rw [ht]; exact hP9, va_K.moved hW.alike hK, hD9⟩, hS.F ht⟩) hS.2.2 dX11_isNextToLast_30

def kwX11_man : List Cond := .code yX11_man cX11_man 5 (some .int) :: kG
theorem hdX11_man : yX11_man.cls ≠ "java/lang/invoke/MethodHandle" ∧ yX11_man.cls ≠ "java/lang/invoke/VarHandle" ∧ (parseMethodDescriptor yX11_man.desc).map (fun d => d.parameters.length) = some 2 := by decide +kernel
theorem gX11_man_X11_in : GoodIn kG (va_wsS RX11 75 yX11_in kwX11_in) := gK w27_8 (gK w27_9 (gK w0_5 (gK w27_10 gGG)))
theorem gX11_man_X11_isNeighbour : GoodIn kG (wsV RX11 267 RX11 yX11_isNeighbour kwX11_isNeighbour) := gK w27_11 (gK w27_12 (gK w27_13 (gK w0_5 (gK w27_14 gGG))))
theorem gX11_man_X11_men : GoodIn kG (wsV RX11 71 RX11 yX11_men kwX11_men) := gK w19_17 (gK w19_18 (gK w19_19 (gK w0_5 (gK w19_20 gGG))))
theorem gX11_man_X11_noMan : GoodIn kG (wsV RX11 280 RX11 yX11_noMan kwX11_noMan) := gK w27_4 (gK w27_5 (gK w27_6 (gK w0_5 (gK w27_7 gGG))))
theorem gX11_man_X11_ofMan : GoodIn kG (wsV RX11 153 RX11 yX11_ofMan kwX11_ofMan) := gK w21_5 (gK w21_6 (gK w21_7 (gK w0_5 (gK w21_8 gGG))))
theorem gX11_man_X11_throwsIf : GoodIn kG (wsV RX11 258 RX11 yX11_throwsIf kwX11_throwsIf) := gK w23_6 (gK w23_7 (gK w23_8 (gK w0_5 (gK w23_9 gGG))))
theorem dX11_man_0 : decode cX11_man 0 = .ok (.aload_n 0, 1) := by decide +kernel
theorem dX11_man_1 : decode cX11_man 1 = .ok (.iconst 0, 1) := by decide +kernel
theorem dX11_man_2 : decode cX11_man 2 = .ok (.putfield 3, 3) := by decide +kernel
theorem dX11_man_5 : decode cX11_man 5 = .ok (.aload_n 0, 1) := by decide +kernel
theorem dX11_man_6 : decode cX11_man 6 = .ok (.aload_n 0, 1) := by decide +kernel
theorem dX11_man_7 : decode cX11_man 7 = .ok (.iload_n 1, 1) := by decide +kernel
theorem dX11_man_8 : decode cX11_man 8 = .ok (.invokevirtual 280, 3) := by decide +kernel
theorem dX11_man_11 : decode cX11_man 11 = .ok (.iconst 1, 1) := by decide +kernel
theorem dX11_man_12 : decode cX11_man 12 = .ok (.invokevirtual 258, 3) := by decide +kernel
theorem dX11_man_15 : decode cX11_man 15 = .ok (.ifCond .ne 25, 3) := by decide +kernel
theorem dX11_man_18 : decode cX11_man 18 = .ok (.aload_n 0, 1) := by decide +kernel
theorem dX11_man_19 : decode cX11_man 19 = .ok (.iload_n 2, 1) := by decide +kernel
theorem dX11_man_20 : decode cX11_man 20 = .ok (.iconst 0, 1) := by decide +kernel
theorem dX11_man_21 : decode cX11_man 21 = .ok (.iconst 5, 1) := by decide +kernel
theorem dX11_man_22 : decode cX11_man 22 = .ok (.invokestatic 75, 3) := by decide +kernel
theorem dX11_man_25 : decode cX11_man 25 = .ok (.ifCond .ne 7, 3) := by decide +kernel
theorem dX11_man_28 : decode cX11_man 28 = .ok (.iconst 1, 1) := by decide +kernel
theorem dX11_man_29 : decode cX11_man 29 = .ok (.goto 4, 3) := by decide +kernel
theorem dX11_man_32 : decode cX11_man 32 = .ok (.iconst 0, 1) := by decide +kernel
theorem dX11_man_33 : decode cX11_man 33 = .ok (.iconst 2, 1) := by decide +kernel
theorem dX11_man_34 : decode cX11_man 34 = .ok (.invokevirtual 258, 3) := by decide +kernel
theorem dX11_man_37 : decode cX11_man 37 = .ok (.ifCond .eq 5, 3) := by decide +kernel
theorem dX11_man_40 : decode cX11_man 40 = .ok (.iconst 0, 1) := by decide +kernel
theorem dX11_man_41 : decode cX11_man 41 = .ok (.ireturn, 1) := by decide +kernel
theorem dX11_man_42 : decode cX11_man 42 = .ok (.iload_n 2, 1) := by decide +kernel
theorem dX11_man_43 : decode cX11_man 43 = .ok (.iconst 5, 1) := by decide +kernel
theorem dX11_man_44 : decode cX11_man 44 = .ok (.if_icmp .ge 10, 3) := by decide +kernel
theorem dX11_man_47 : decode cX11_man 47 = .ok (.aload_n 0, 1) := by decide +kernel
theorem dX11_man_48 : decode cX11_man 48 = .ok (.iload_n 1, 1) := by decide +kernel
theorem dX11_man_49 : decode cX11_man 49 = .ok (.iload_n 2, 1) := by decide +kernel
theorem dX11_man_50 : decode cX11_man 50 = .ok (.invokevirtual 153, 3) := by decide +kernel
theorem dX11_man_53 : decode cX11_man 53 = .ok (.ireturn, 1) := by decide +kernel
theorem dX11_man_54 : decode cX11_man 54 = .ok (.iconst 0, 1) := by decide +kernel
theorem dX11_man_55 : decode cX11_man 55 = .ok (.istore_n 3, 1) := by decide +kernel
theorem dX11_man_56 : decode cX11_man 56 = .ok (.iconst 0, 1) := by decide +kernel
theorem dX11_man_57 : decode cX11_man 57 = .ok (.istore 4, 2) := by decide +kernel
theorem dX11_man_59 : decode cX11_man 59 = .ok (.iload 4, 2) := by decide +kernel
theorem dX11_man_61 : decode cX11_man 61 = .ok (.aload_n 0, 1) := by decide +kernel
theorem dX11_man_62 : decode cX11_man 62 = .ok (.invokevirtual 71, 3) := by decide +kernel
theorem dX11_man_65 : decode cX11_man 65 = .ok (.if_icmp .ge 30, 3) := by decide +kernel
theorem dX11_man_68 : decode cX11_man 68 = .ok (.iload_n 3, 1) := by decide +kernel
theorem dX11_man_69 : decode cX11_man 69 = .ok (.aload_n 0, 1) := by decide +kernel
theorem dX11_man_70 : decode cX11_man 70 = .ok (.iload_n 1, 1) := by decide +kernel
theorem dX11_man_71 : decode cX11_man 71 = .ok (.iload 4, 2) := by decide +kernel
theorem dX11_man_73 : decode cX11_man 73 = .ok (.invokevirtual 267, 3) := by decide +kernel
theorem dX11_man_76 : decode cX11_man 76 = .ok (.ifCond .eq 10, 3) := by decide +kernel
theorem dX11_man_79 : decode cX11_man 79 = .ok (.iconst 1, 1) := by decide +kernel
theorem dX11_man_80 : decode cX11_man 80 = .ok (.iload 4, 2) := by decide +kernel
theorem dX11_man_82 : decode cX11_man 82 = .ok (.ishl, 1) := by decide +kernel
theorem dX11_man_83 : decode cX11_man 83 = .ok (.goto 4, 3) := by decide +kernel
theorem dX11_man_86 : decode cX11_man 86 = .ok (.iconst 0, 1) := by decide +kernel
theorem dX11_man_87 : decode cX11_man 87 = .ok (.ior, 1) := by decide +kernel
theorem dX11_man_88 : decode cX11_man 88 = .ok (.istore_n 3, 1) := by decide +kernel
theorem dX11_man_89 : decode cX11_man 89 = .ok (.iinc 4 1, 3) := by decide +kernel
theorem dX11_man_92 : decode cX11_man 92 = .ok (.goto (-33), 3) := by decide +kernel
theorem dX11_man_95 : decode cX11_man 95 = .ok (.iload_n 3, 1) := by decide +kernel
theorem dX11_man_96 : decode cX11_man 96 = .ok (.ireturn, 1) := by decide +kernel
set_option maxHeartbeats 4000000 in
set_option maxRecDepth 100000 in
/-- reference: man -/
theorem r_man (l : Launch) (D : va_G) (cI cJ cB cC : ClassId) (h : Nat) (th : Int32) (aw : Nat) (ai : Nat) (ab : Nat) (ac : Nat) (hi : Int32) (re : Int32) (aP : Nat) (ta : Int32) (po : Int32) (en : Int32) (be : Int32) (de : Int32) (fa : Int32) (a5 : Nat) (sp : Int32) (av : Nat) (an : Nat) (ak : Nat) (ne : Int32) (aW : Nat) (aC : Nat) (ag : Nat) (aT : Nat) (aN : Nat) (aF : Nat) (fw : Nat → Int32) (mm : Int32) (b : Int32) (sz : Nat) (H_fw_W : wW fw) : Met l yX11_man kwX11_man ({ frames := 2, cells := 0, slots := 0, locals := 44 } : Room) (kPre D (kT cI cJ cB cC) sz [(h, oX11 th aw ai ab ac hi re aP ta po en be de fa a5 sp av an ak ne aW aC ag aT aN aF), (aw, .inl (cI, 2179, .inl fw))] [.ref h, .int mm, .int b]) (va_Qi (fun (r : Int32) (n0_ : Int32) => True) (fun (n0_ : Int32) (t : State) => kB D (kT cI cJ cB cC) (va_A [(h, oX11 th aw ai ab ac hi re aP ta po en be de fa a5 sp av an ak ne aW aC ag aT aN aF), (aw, .inl (cI, 2179, .inl fw))] sz) [(h, oX11 n0_ aw ai ab ac hi re aP ta po en be de fa a5 sp av an ak ne aW aC ag aT aN aF), (aw, .inl (cI, 2179, .inl fw))] t) (va_A [(h, oX11 th aw ai ab ac hi re aP ta po en be de fa a5 sp av an ak ne aW aC ag aT aN aF), (aw, .inl (cI, 2179, .inl fw))] sz)) 0 0 (va_A [(h, oX11 th aw ai ab ac hi re aP ta po en be de fa a5 sp av an ak ne aW aC ag aT aN aF), (aw, .inl (cI, 2179, .inl fw))] sz) := by
  refine Met.ofW (cc := cX11_man) (maxL := 5) (ret := (some .int)) (by decide) rfl ?_
  intro p e s m args below meth c s₁ B hml hv
  obtain ⟨rfl, hsz, hN, hE, hP, hK, hD0⟩ := hv
  have hx := B.exec
  have hb := B.bytes
  have hr := B.returns
  have hts := fun (w : Cond) (h : w ∈ kG) => atoms_spec (ws := kwX11_man) B.pre w (List.mem_cons_of_mem _ h)
  have hown : s.vm.findClass RX11 = some m.cls := findClass_of_methodNamed B.named
  subst hsz
  have hD := hD0.self (sz := s.heap.size)
  generalize hAe : va_A [(h, oX11 th aw ai ab ac hi re aP ta po en be de fa a5 sp av an ak ne aW aC ag aT aN aF), (aw, .inl (cI, 2179, .inl fw))] s.heap.size = A at hD hE ⊢
  have hA : ∀ q : Nat, s.heap.size ≤ q → A q := fun q h => by rw [← hAe]; exact Or.inr h
  have hl := lv_entry ([.ref h, .int mm, .int b]) (n := 5) (Nat.le_of_ble_eq_true rfl)
  rw [lg_entry_eq]
  generalize (lg_sl ([.ref h, .int mm, .int b]) ++ List.replicate (5 - (lg_sl ([.ref h, .int mm, .int b])).length) Slot.unset).toArray = ls at hl ⊢
  have hl : lv_has ls 5 [(0, .ref h), (1, .int mm), (2, .int b)] := hl
  obtain ⟨H, hH0⟩ : ∃ H, H = s.heap := ⟨_, rfl⟩
  have hS : va_S A s.heap H [] := by rw [hH0]; exact va_S.rf
  have hP : va_P D vwCl [(h, oX11 th aw ai ab ac hi re aP ta po en be de fa a5 sp av an ak ne aW aC ag aT aN aF), (aw, .inl (cI, 2179, .inl fw))] H := by rw [hH0]; exact hP
  refine kHeap hH0 ?_
  clear hH0
  refine lv_aload_n hx hb dX11_man_0 rfl (lv_at hl 0 rfl) ?_
  refine lv_iconst (v := 0) hx hb dX11_man_1 (by decide) ?_
  refine va_put (D := D) (ci := 10) (v := .int 0) (ty := .int) (C := RX11) (T := TX11) (N := 26) hx hb hts iG_X11 tyX11 tyX11_ok nmX11 hown hK hP hD hS 0 rfl rfl 0 (by decide) (hts _ w6_8) (fun _ h9 => h9) rfl (by decide +kernel) rfl rfl (Nat.le_of_ble_eq_true rfl) dX11_man_2 (fun H locs hP hD hS => ?_)
  have hP : va_P D vwCl [(h, oX11 0 aw ai ab ac hi re aP ta po en be de fa a5 sp av an ak ne aW aC ag aT aN aF), (aw, .inl (cI, 2179, .inl fw))] H := hP
  have hD : va_D A [(h, oX11 0 aw ai ab ac hi re aP ta po en be de fa a5 sp av an ak ne aW aC ag aT aN aF), (aw, .inl (cI, 2179, .inl fw))] := hD
  refine lv_aload_n hx hb dX11_man_5 rfl (lv_at hl 0 rfl) ?_
  refine lv_aload_n hx hb dX11_man_6 rfl (lv_at hl 0 rfl) ?_
  refine lv_iload_n hx hb dX11_man_7 rfl (lv_at hl 1 rfl) ?_
  refine kpurei (wc := [(h, oX11 0 aw ai ab ac hi re aP ta po en be de fa a5 sp av an ak ne aW aC ag aT aN aF), (aw, .inl (cI, 2179, .inl fw))]) hP hD hS hA [0, 1] rfl (by decide) (fun hPc hDc hFc => va_runV (As := [.int mm]) (rest := [.ref h]) ⟨hx, hb, hml, hown, hts⟩ (r_noMan l D cI cJ cB cC h 0 aw ai ab ac hi re aP ta po en be de fa a5 sp av an ak ne aW aC ag aT aN aF fw mm H.size H_fw_W) (cwV 1 hts gX11_man_X11_noMan rfl rfl rfl ⟨rfl, hdX11_noMan⟩ ⟨Nat.le_of_ble_eq_true rfl, Nat.le_of_ble_eq_true rfl⟩) ⟨kBlind, va_recv hK hPc (ci := 10) (q0 := 0) rfl rfl, fun U hU hW => ⟨rfl, by rw [hU], hN.warm hW, hE.pass hS hFc hW hU, by rw [hU]; exact hPc, va_K.moved hW.alike hK, hDc⟩⟩ rfl rfl hl.1 rfl (lv_room (Nat.le_of_ble_eq_true rfl)) dX11_man_8 ⟨Nat.le_of_ble_eq_true rfl, Nat.le_of_ble_eq_true rfl⟩) (fun r1 u H locs hw hP hS => ?_)
  rcases hw with ⟨rfl, kc2_0, kc2_1⟩ | rfl
  · skip
    refine lv_iconst (v := 1) hx hb dX11_man_11 (by decide) ?_
    refine kpurei (wc := [(h, oX11 0 aw ai ab ac hi re aP ta po en be de fa a5 sp av an ak ne aW aC ag aT aN aF)]) hP hD hS hA [0] rfl (by decide) (fun hPc hDc hFc => va_runV (As := [.int 0, .int 1]) (rest := []) ⟨hx, hb, hml, hown, hts⟩ (r_throwsIf0_1 l D cI cJ cB cC h 0 aw ai ab ac hi re aP ta po en be de fa a5 sp av an ak ne aW aC ag aT aN aF 1 H.size) (cwV 2 hts gX11_man_X11_throwsIf rfl rfl rfl ⟨rfl, hdX11_throwsIf⟩ ⟨Nat.le_of_ble_eq_true rfl, Nat.le_of_ble_eq_true rfl⟩) ⟨kBlind, va_recv hK hPc (ci := 10) (q0 := 0) rfl rfl, fun U hU hW => ⟨rfl, by rw [hU], hN.warm hW, hE.pass hS hFc hW hU, by rw [hU]; exact hPc, va_K.moved hW.alike hK, hDc⟩⟩ rfl rfl hl.1 rfl (lv_room (Nat.le_of_ble_eq_true rfl)) dX11_man_12 ⟨Nat.le_of_ble_eq_true rfl, Nat.le_of_ble_eq_true rfl⟩) (fun r3 u H locs hw hP hS => ?_)
    have k4 := hw
    refine lv_if_ne (tgt := 40) hx hb dX11_man_15 (by decide) (fun c383 => absurd (rg_eq k4 (rg_lit (n := 0) (by decide)) (by decide)) c383) (fun _ => ?_)
    refine lv_aload_n hx hb dX11_man_18 rfl (lv_at hl 0 rfl) ?_
    refine lv_iload_n hx hb dX11_man_19 rfl (lv_at hl 2 rfl) ?_
    refine lv_iconst (v := 0) hx hb dX11_man_20 (by decide) ?_
    refine lv_iconst (v := 5) hx hb dX11_man_21 (by decide) ?_
    refine kpurei (wc := []) hP hD hS hA [] rfl (by decide) (fun hPc hDc hFc => va_runS (As := [.int b, .int 0, .int 5]) (rest := [.ref h]) ⟨hx, hb, hml, hown, hts⟩ (r_in_0_5 l D cI cJ cB cC b H.size) (va_cwS 3 hts gX11_man_X11_in rfl rfl rfl hdX11_in ⟨Nat.le_of_ble_eq_true rfl, Nat.le_of_ble_eq_true rfl⟩) ⟨kBlind, fun U hU hW => ⟨rfl, by rw [hU], hN.warm hW, hE.pass hS hFc hW hU, by rw [hU]; exact hPc, va_K.moved hW.alike hK, hDc⟩⟩ rfl rfl hl.1 rfl (lv_room (Nat.le_of_ble_eq_true rfl)) dX11_man_22 ⟨Nat.le_of_ble_eq_true rfl, Nat.le_of_ble_eq_true rfl⟩) (fun r384 u H locs hw hP hS => ?_)
    rcases hw with rfl | ⟨rfl, kc385_0⟩
    · skip
      refine lv_if_ne (tgt := 32) hx hb dX11_man_25 (by decide) (fun c387 => absurd (by decide) c387) (fun _ => ?_)
      refine lv_iconst (v := 1) hx hb dX11_man_28 (by decide) ?_
      refine lv_goto (tgt := 33) hx hb dX11_man_29 (by decide) ?_
      refine lv_iconst (v := 2) hx hb dX11_man_33 (by decide) ?_
      refine kcalli (wc := [(h, oX11 0 aw ai ab ac hi re aP ta po en be de fa a5 sp av an ak ne aW aC ag aT aN aF)]) (wr := [(aw, .inl (cI, 2179, .inl fw))]) hP hD hS hA [0] [1] rfl rfl (by decide) (by decide) (by decide) (fun hPc hDc hFc => va_runV (As := [.int 1, .int 2]) (rest := []) ⟨hx, hb, hml, hown, hts⟩ (r_throwsIf1_1 l D cI cJ cB cC h 0 aw ai ab ac hi re aP ta po en be de fa a5 sp av an ak ne aW aC ag aT aN aF 2 H.size) (cwV 2 hts gX11_man_X11_throwsIf rfl rfl rfl ⟨rfl, hdX11_throwsIf⟩ ⟨Nat.le_of_ble_eq_true rfl, Nat.le_of_ble_eq_true rfl⟩) ⟨kBlind, va_recv hK hPc (ci := 10) (q0 := 0) rfl rfl, fun U hU hW => ⟨rfl, by rw [hU], hN.warm hW, hE.pass hS hFc hW hU, by rw [hU]; exact hPc, va_K.moved hW.alike hK, hDc⟩⟩ rfl rfl hl.1 rfl (lv_room (Nat.le_of_ble_eq_true rfl)) dX11_man_34 ⟨Nat.le_of_ble_eq_true rfl, Nat.le_of_ble_eq_true rfl⟩) (fun r388 u H locs hw hP hD hS => ?_)
      obtain ⟨x389, rfl⟩ : ∃ z, z = u := ⟨_, rfl⟩
      have hP : va_P D vwCl [(aw, .inl (cI, 2179, .inl fw)), (h, oX11 x389 aw ai ab ac hi re aP ta po en be de fa a5 sp av an ak ne aW aC ag aT aN aF)] H := hP
      have hD : va_D A [(aw, .inl (cI, 2179, .inl fw)), (h, oX11 x389 aw ai ab ac hi re aP ta po en be de fa a5 sp av an ak ne aW aC ag aT aN aF)] := hD
      have k390 := hw
      refine lv_if_eq (tgt := 42) hx hb dX11_man_37 (by decide) (fun c391 => absurd c391 (rg_neq k390 (rg_lit (n := 0) (by decide)) (by decide))) (fun _ => ?_)
      refine lv_iconst (v := 0) hx hb dX11_man_40 (by decide) ?_
      have hP9 := hP.sub (ws' := [(h, oX11 x389 aw ai ab ac hi re aP ta po en be de fa a5 sp av an ak ne aW aC ag aT aN aF), (aw, .inl (cI, 2179, .inl fw))]) [1, 0] rfl
      have hD9 := hD.sub (ws' := [(h, oX11 x389 aw ai ab ac hi re aP ta po en be de fa a5 sp av an ak ne aW aC ag aT aN aF), (aw, .inl (cI, 2179, .inl fw))]) [1, 0] (by decide) rfl
      exact W.iret (v := 0) hx hb hr (fun t ht hW => ⟨⟨0, (x389), rfl, trivial, by rw [ht]; exact hP9, va_K.moved hW.alike hK, hD9⟩, hS.F ht⟩) hS.2.2 dX11_man_41
    · skip
      refine lv_if_ne (tgt := 32) hx hb dX11_man_25 (by decide) (fun _ => ?_) (fun c393 => absurd c393 (by decide))
      refine lv_iconst (v := 0) hx hb dX11_man_32 (by decide) ?_
      refine lv_iconst (v := 2) hx hb dX11_man_33 (by decide) ?_
      refine kpurei (wc := [(h, oX11 0 aw ai ab ac hi re aP ta po en be de fa a5 sp av an ak ne aW aC ag aT aN aF)]) hP hD hS hA [0] rfl (by decide) (fun hPc hDc hFc => va_runV (As := [.int 0, .int 2]) (rest := []) ⟨hx, hb, hml, hown, hts⟩ (r_throwsIf0_1 l D cI cJ cB cC h 0 aw ai ab ac hi re aP ta po en be de fa a5 sp av an ak ne aW aC ag aT aN aF 2 H.size) (cwV 2 hts gX11_man_X11_throwsIf rfl rfl rfl ⟨rfl, hdX11_throwsIf⟩ ⟨Nat.le_of_ble_eq_true rfl, Nat.le_of_ble_eq_true rfl⟩) ⟨kBlind, va_recv hK hPc (ci := 10) (q0 := 0) rfl rfl, fun U hU hW => ⟨rfl, by rw [hU], hN.warm hW, hE.pass hS hFc hW hU, by rw [hU]; exact hPc, va_K.moved hW.alike hK, hDc⟩⟩ rfl rfl hl.1 rfl (lv_room (Nat.le_of_ble_eq_true rfl)) dX11_man_34 ⟨Nat.le_of_ble_eq_true rfl, Nat.le_of_ble_eq_true rfl⟩) (fun r394 u H locs hw hP hS => ?_)
      have k395 := hw
      refine lv_if_eq (tgt := 42) hx hb dX11_man_37 (by decide) (fun _ => ?_) (fun c396 => absurd (rg_eq k395 (rg_lit (n := 0) (by decide)) (by decide)) c396)
      refine lv_iload_n hx hb dX11_man_42 rfl (lv_at hl 2 rfl) ?_
      refine lv_iconst (v := 5) hx hb dX11_man_43 (by decide) ?_
      refine lv_icmp_ge (tgt := 54) hx hb dX11_man_44 (by decide) (fun c397 => ?_) (fun c397 => ?_)
      · skip
        have k398 : Rg b 5 5 := rg_e2 (leI c397) (rg_lit (n := 5) (by decide)) kc385_0 (by decide)
        refine lv_iconst (v := 0) hx hb dX11_man_54 (by decide) ?_
        refine lv_istore_n (lv' := [(3, .int 0), (0, .ref h), (1, .int mm), (2, .int b)]) hx hb dX11_man_55 rfl hl (by decide) rfl (fun ls hl => ?_)
        refine lv_iconst (v := 0) hx hb dX11_man_56 (by decide) ?_
        refine lv_istore (lv' := [(4, .int 0), (3, .int 0), (0, .ref h), (1, .int mm), (2, .int b)]) hx hb dX11_man_57 hl (by decide) rfl (fun ls hl => ?_)
        refine k_loop (hd := 59) (fun (u : Int32 × Int32) => match u with | (y739, y740) => (10 - (y739).toInt).toNat) (fun (u : Int32 × Int32) (H : Heap) (locs : List Loc) (ls : Array Slot) => match u with | (y739, y740) => Rg y739 0 10 ∧ Rg y740 0 1023 ∧ va_P D vwCl [(h, oX11 0 aw ai ab ac hi re aP ta po en be de fa a5 sp av an ak ne aW aC ag aT aN aF), (aw, .inl (cI, 2179, .inl fw))] H ∧ va_D A [(h, oX11 0 aw ai ab ac hi re aP ta po en be de fa a5 sp av an ak ne aW aC ag aT aN aF), (aw, .inl (cI, 2179, .inl fw))] ∧ va_S A s.heap H locs ∧ lv_has ls 5 [(4, .int y739), (3, .int y740), (0, .ref h), (1, .int mm), (2, .int b)]) ((0 : Int32), (0 : Int32)) ⟨(rg_w (rg_lit (n := 0) (by decide)) (by decide)), (rg_w (rg_lit (n := 0) (by decide)) (by decide)), hP.sub (ws' := [(h, oX11 0 aw ai ab ac hi re aP ta po en be de fa a5 sp av an ak ne aW aC ag aT aN aF), (aw, .inl (cI, 2179, .inl fw))]) [0, 1] rfl, hD.sub (ws' := [(h, oX11 0 aw ai ab ac hi re aP ta po en be de fa a5 sp av an ak ne aW aC ag aT aN aF), (aw, .inl (cI, 2179, .inl fw))]) [0, 1] (by decide) rfl, hS, lv_sub (l' := [(4, .int 0), (3, .int 0), (0, .ref h), (1, .int mm), (2, .int b)]) hl [0, 1, 2, 3, 4] rfl⟩ (fun u H locs ls hI ih741 => ?_)
        clear hP hD hS hl
        obtain ⟨y739, y740⟩ := u
        obtain ⟨hy739, hy740, hP, hD, hS, hl⟩ := hI
        have hP : va_P D vwCl [(h, oX11 0 aw ai ab ac hi re aP ta po en be de fa a5 sp av an ak ne aW aC ag aT aN aF), (aw, .inl (cI, 2179, .inl fw))] H := hP
        have hD : va_D A [(h, oX11 0 aw ai ab ac hi re aP ta po en be de fa a5 sp av an ak ne aW aC ag aT aN aF), (aw, .inl (cI, 2179, .inl fw))] := hD
        have hl : lv_has ls 5 [(4, .int y739), (3, .int y740), (0, .ref h), (1, .int mm), (2, .int b)] := hl
        refine lv_iload hx hb dX11_man_59 (lv_at hl 0 rfl) ?_
        refine lv_aload_n hx hb dX11_man_61 rfl (lv_at hl 2 rfl) ?_
        refine kpurei (wc := [(h, oX11 0 aw ai ab ac hi re aP ta po en be de fa a5 sp av an ak ne aW aC ag aT aN aF), (aw, .inl (cI, 2179, .inl fw))]) hP hD hS hA [0, 1] rfl (by decide) (fun hPc hDc hFc => va_runV (As := []) (rest := [.int y739]) ⟨hx, hb, hml, hown, hts⟩ (r_men l D cI cJ cB cC h 0 aw ai ab ac hi re aP ta po en be de fa a5 sp av an ak ne aW aC ag aT aN aF fw H.size H_fw_W) (cwV 0 hts gX11_man_X11_men rfl rfl rfl ⟨rfl, hdX11_men⟩ ⟨Nat.le_of_ble_eq_true rfl, Nat.le_of_ble_eq_true rfl⟩) ⟨kBlind, va_recv hK hPc (ci := 10) (q0 := 0) rfl rfl, fun U hU hW => ⟨rfl, by rw [hU], hN.warm hW, hE.pass hS hFc hW hU, by rw [hU]; exact hPc, va_K.moved hW.alike hK, hDc⟩⟩ rfl rfl hl.1 rfl (lv_room (Nat.le_of_ble_eq_true rfl)) dX11_man_62 ⟨Nat.le_of_ble_eq_true rfl, Nat.le_of_ble_eq_true rfl⟩) (fun r742 u H locs hw hP hS => ?_)
        obtain ⟨k743, k744⟩ := hw
        refine lv_icmp_ge (tgt := 95) hx hb dX11_man_65 (by decide) (fun c745 => ?_) (fun c745 => ?_)
        · skip
          refine lv_iload_n hx hb dX11_man_95 rfl (lv_at hl 1 rfl) ?_
          have hP9 := hP.sub (ws' := [(h, oX11 0 aw ai ab ac hi re aP ta po en be de fa a5 sp av an ak ne aW aC ag aT aN aF), (aw, .inl (cI, 2179, .inl fw))]) [0, 1] rfl
          have hD9 := hD.sub (ws' := [(h, oX11 0 aw ai ab ac hi re aP ta po en be de fa a5 sp av an ak ne aW aC ag aT aN aF), (aw, .inl (cI, 2179, .inl fw))]) [0, 1] (by decide) rfl
          exact W.iret (v := y740) hx hb hr (fun t ht hW => ⟨⟨y740, ((0 : Int32)), rfl, trivial, by rw [ht]; exact hP9, va_K.moved hW.alike hK, hD9⟩, hS.F ht⟩) hS.2.2 dX11_man_96
        · skip
          have k746 : Rg y739 0 9 := rg_l1 (nleI c745) hy739 k744 (by decide)
          have k747 : Rg r742 1 10 := rg_l2 (nleI c745) hy739 k744 (by decide)
          refine lv_iload_n hx hb dX11_man_68 rfl (lv_at hl 1 rfl) ?_
          refine lv_aload_n hx hb dX11_man_69 rfl (lv_at hl 2 rfl) ?_
          refine lv_iload_n hx hb dX11_man_70 rfl (lv_at hl 3 rfl) ?_
          refine lv_iload hx hb dX11_man_71 (lv_at hl 0 rfl) ?_
          refine kpurei (wc := [(h, oX11 0 aw ai ab ac hi re aP ta po en be de fa a5 sp av an ak ne aW aC ag aT aN aF), (aw, .inl (cI, 2179, .inl fw))]) hP hD hS hA [0, 1] rfl (by decide) (fun hPc hDc hFc => va_runV (As := [.int mm, .int y739]) (rest := [.int y740]) ⟨hx, hb, hml, hown, hts⟩ (r_isNeighbour l D cI cJ cB cC h 0 aw ai ab ac hi re aP ta po en be de fa a5 sp av an ak ne aW aC ag aT aN aF fw mm y739 H.size kc2_0 k746 H_fw_W) (cwV 2 hts gX11_man_X11_isNeighbour rfl rfl rfl ⟨rfl, hdX11_isNeighbour⟩ ⟨Nat.le_of_ble_eq_true rfl, Nat.le_of_ble_eq_true rfl⟩) ⟨kBlind, va_recv hK hPc (ci := 10) (q0 := 0) rfl rfl, fun U hU hW => ⟨rfl, by rw [hU], hN.warm hW, hE.pass hS hFc hW hU, by rw [hU]; exact hPc, va_K.moved hW.alike hK, hDc⟩⟩ rfl rfl hl.1 rfl (lv_room (Nat.le_of_ble_eq_true rfl)) dX11_man_73 ⟨Nat.le_of_ble_eq_true rfl, Nat.le_of_ble_eq_true rfl⟩) (fun r748 u H locs hw hP hS => ?_)
          rcases hw with rfl | rfl
          · skip
            refine lv_if_eq (tgt := 86) hx hb dX11_man_76 (by decide) (fun _ => ?_) (fun c751 => absurd (by decide) c751)
            refine lv_iconst (v := 0) hx hb dX11_man_86 (by decide) ?_
            refine lv_ior hx hb dX11_man_87 ?_
            refine lv_topi (fun x752 ex752 => ?_)
            have k753 : Rg x752 0 1023 := rg_or 10 ex752 hy740 (rg_lit (n := 0) (by decide)) (by decide)
            clear ex752
            refine lv_istore_n (lv' := [(3, .int x752), (4, .int y739), (0, .ref h), (1, .int mm), (2, .int b)]) hx hb dX11_man_88 rfl hl (by decide) rfl (fun ls hl => ?_)
            obtain ⟨x754, ex754⟩ : ∃ y : Int32, y = y739 + 1 := ⟨_, rfl⟩
            refine lv_iinc (v := x754) (lv' := [(4, .int x754), (3, .int x752), (0, .ref h), (1, .int mm), (2, .int b)]) hx hb dX11_man_89 hl (k := 1) rfl (by rw [ex754]; rfl) (by decide) rfl (fun ls hl => ?_)
            have k755 : Rg x754 1 10 := rg_add ex754 k746 (rg_lit (n := 1) (by decide)) (by decide)
            refine lv_goto (tgt := 59) hx hb dX11_man_92 (by decide) ?_
            exact ih741 (x754, x752) _ _ _ (by show (10 - (x754).toInt).toNat < (10 - (y739).toInt).toNat; exact mu_up ex754 k746 k755 (by decide)) ⟨(rg_w k755 (by decide)), k753, hP.sub (ws' := [(h, oX11 0 aw ai ab ac hi re aP ta po en be de fa a5 sp av an ak ne aW aC ag aT aN aF), (aw, .inl (cI, 2179, .inl fw))]) [0, 1] rfl, hD.sub (ws' := [(h, oX11 0 aw ai ab ac hi re aP ta po en be de fa a5 sp av an ak ne aW aC ag aT aN aF), (aw, .inl (cI, 2179, .inl fw))]) [0, 1] (by decide) rfl, hS, lv_sub (l' := [(4, .int x754), (3, .int x752), (0, .ref h), (1, .int mm), (2, .int b)]) hl [0, 1, 2, 3, 4] rfl⟩
          · skip
            refine lv_if_eq (tgt := 86) hx hb dX11_man_76 (by decide) (fun c759 => absurd c759 (by decide)) (fun _ => ?_)
            refine lv_iconst (v := 1) hx hb dX11_man_79 (by decide) ?_
            refine lv_iload hx hb dX11_man_80 (lv_at hl 0 rfl) ?_
            refine lv_ishl hx hb dX11_man_82 ?_
            refine lv_topi (fun x760 ex760 => ?_)
            have k761 : Rg x760 1 512 := rg_shl1 9 ex760 k746 (by decide)
            clear ex760
            refine lv_goto (tgt := 87) hx hb dX11_man_83 (by decide) ?_
            refine lv_ior hx hb dX11_man_87 ?_
            refine lv_topi (fun x762 ex762 => ?_)
            have k763 : Rg x762 0 1023 := rg_or 10 ex762 hy740 k761 (by decide)
            clear ex762
            refine lv_istore_n (lv' := [(3, .int x762), (4, .int y739), (0, .ref h), (1, .int mm), (2, .int b)]) hx hb dX11_man_88 rfl hl (by decide) rfl (fun ls hl => ?_)
            obtain ⟨x764, ex764⟩ : ∃ y : Int32, y = y739 + 1 := ⟨_, rfl⟩
            refine lv_iinc (v := x764) (lv' := [(4, .int x764), (3, .int x762), (0, .ref h), (1, .int mm), (2, .int b)]) hx hb dX11_man_89 hl (k := 1) rfl (by rw [ex764]; rfl) (by decide) rfl (fun ls hl => ?_)
            have k765 : Rg x764 1 10 := rg_add ex764 k746 (rg_lit (n := 1) (by decide)) (by decide)
            refine lv_goto (tgt := 59) hx hb dX11_man_92 (by decide) ?_
            exact ih741 (x764, x762) _ _ _ (by show (10 - (x764).toInt).toNat < (10 - (y739).toInt).toNat; exact mu_up ex764 k746 k765 (by decide)) ⟨(rg_w k765 (by decide)), k763, hP.sub (ws' := [(h, oX11 0 aw ai ab ac hi re aP ta po en be de fa a5 sp av an ak ne aW aC ag aT aN aF), (aw, .inl (cI, 2179, .inl fw))]) [0, 1] rfl, hD.sub (ws' := [(h, oX11 0 aw ai ab ac hi re aP ta po en be de fa a5 sp av an ak ne aW aC ag aT aN aF), (aw, .inl (cI, 2179, .inl fw))]) [0, 1] (by decide) rfl, hS, lv_sub (l' := [(4, .int x764), (3, .int x762), (0, .ref h), (1, .int mm), (2, .int b)]) hl [0, 1, 2, 3, 4] rfl⟩
      · skip
        have k766 : Rg b 0 4 := rg_l1 (nleI c397) kc385_0 (rg_lit (n := 5) (by decide)) (by decide)
        refine lv_aload_n hx hb dX11_man_47 rfl (lv_at hl 0 rfl) ?_
        refine lv_iload_n hx hb dX11_man_48 rfl (lv_at hl 1 rfl) ?_
        refine lv_iload_n hx hb dX11_man_49 rfl (lv_at hl 2 rfl) ?_
        refine kpurei (wc := [(h, oX11 0 aw ai ab ac hi re aP ta po en be de fa a5 sp av an ak ne aW aC ag aT aN aF), (aw, .inl (cI, 2179, .inl fw))]) hP hD hS hA [0, 1] rfl (by decide) (fun hPc hDc hFc => va_runV (As := [.int mm, .int b]) (rest := []) ⟨hx, hb, hml, hown, hts⟩ (r_ofMan l D cI cJ cB cC h 0 aw ai ab ac hi re aP ta po en be de fa a5 sp av an ak ne aW aC ag aT aN aF fw mm b H.size kc2_0 k766 H_fw_W) (cwV 2 hts gX11_man_X11_ofMan rfl rfl rfl ⟨rfl, hdX11_ofMan⟩ ⟨Nat.le_of_ble_eq_true rfl, Nat.le_of_ble_eq_true rfl⟩) ⟨kBlind, va_recv hK hPc (ci := 10) (q0 := 0) rfl rfl, fun U hU hW => ⟨rfl, by rw [hU], hN.warm hW, hE.pass hS hFc hW hU, by rw [hU]; exact hPc, va_K.moved hW.alike hK, hDc⟩⟩ rfl rfl hl.1 rfl (lv_room (Nat.le_of_ble_eq_true rfl)) dX11_man_50 ⟨Nat.le_of_ble_eq_true rfl, Nat.le_of_ble_eq_true rfl⟩) (fun r767 u H locs hw hP hS => ?_)
        have hP9 := hP.sub (ws' := [(h, oX11 0 aw ai ab ac hi re aP ta po en be de fa a5 sp av an ak ne aW aC ag aT aN aF), (aw, .inl (cI, 2179, .inl fw))]) [0, 1] rfl
        have hD9 := hD.sub (ws' := [(h, oX11 0 aw ai ab ac hi re aP ta po en be de fa a5 sp av an ak ne aW aC ag aT aN aF), (aw, .inl (cI, 2179, .inl fw))]) [0, 1] (by decide) rfl
        exact W.iret (v := r767) hx hb hr (fun t ht hW => ⟨⟨r767, ((0 : Int32)), rfl, trivial, by rw [ht]; exact hP9, va_K.moved hW.alike hK, hD9⟩, hS.F ht⟩) hS.2.2 dX11_man_53
  · skip
    refine lv_iconst (v := 1) hx hb dX11_man_11 (by decide) ?_
    refine kcalli (wc := [(h, oX11 0 aw ai ab ac hi re aP ta po en be de fa a5 sp av an ak ne aW aC ag aT aN aF)]) (wr := [(aw, .inl (cI, 2179, .inl fw))]) hP hD hS hA [0] [1] rfl rfl (by decide) (by decide) (by decide) (fun hPc hDc hFc => va_runV (As := [.int 1, .int 1]) (rest := []) ⟨hx, hb, hml, hown, hts⟩ (r_throwsIf1_1 l D cI cJ cB cC h 0 aw ai ab ac hi re aP ta po en be de fa a5 sp av an ak ne aW aC ag aT aN aF 1 H.size) (cwV 2 hts gX11_man_X11_throwsIf rfl rfl rfl ⟨rfl, hdX11_throwsIf⟩ ⟨Nat.le_of_ble_eq_true rfl, Nat.le_of_ble_eq_true rfl⟩) ⟨kBlind, va_recv hK hPc (ci := 10) (q0 := 0) rfl rfl, fun U hU hW => ⟨rfl, by rw [hU], hN.warm hW, hE.pass hS hFc hW hU, by rw [hU]; exact hPc, va_K.moved hW.alike hK, hDc⟩⟩ rfl rfl hl.1 rfl (lv_room (Nat.le_of_ble_eq_true rfl)) dX11_man_12 ⟨Nat.le_of_ble_eq_true rfl, Nat.le_of_ble_eq_true rfl⟩) (fun r768 u H locs hw hP hD hS => ?_)
    obtain ⟨x769, rfl⟩ : ∃ z, z = u := ⟨_, rfl⟩
    have hP : va_P D vwCl [(aw, .inl (cI, 2179, .inl fw)), (h, oX11 x769 aw ai ab ac hi re aP ta po en be de fa a5 sp av an ak ne aW aC ag aT aN aF)] H := hP
    have hD : va_D A [(aw, .inl (cI, 2179, .inl fw)), (h, oX11 x769 aw ai ab ac hi re aP ta po en be de fa a5 sp av an ak ne aW aC ag aT aN aF)] := hD
    have k770 := hw
    refine lv_if_ne (tgt := 40) hx hb dX11_man_15 (by decide) (fun _ => ?_) (fun c772 => absurd c772 (rg_neq k770 (rg_lit (n := 0) (by decide)) (by decide)))
    refine lv_iconst (v := 0) hx hb dX11_man_40 (by decide) ?_
    have hP9 := hP.sub (ws' := [(h, oX11 x769 aw ai ab ac hi re aP ta po en be de fa a5 sp av an ak ne aW aC ag aT aN aF), (aw, .inl (cI, 2179, .inl fw))]) [1, 0] rfl
    have hD9 := hD.sub (ws' := [(h, oX11 x769 aw ai ab ac hi re aP ta po en be de fa a5 sp av an ak ne aW aC ag aT aN aF), (aw, .inl (cI, 2179, .inl fw))]) [1, 0] (by decide) rfl
    exact W.iret (v := 0) hx hb hr (fun t ht hW => ⟨⟨0, (x769), rfl, trivial, by rw [ht]; exact hP9, va_K.moved hW.alike hK, hD9⟩, hS.F ht⟩) hS.2.2 dX11_man_41

def kwX11_shirt : List Cond := .code yX11_shirt cX11_shirt 3 (some .int) :: kG
theorem hdX11_shirt : yX11_shirt.cls ≠ "java/lang/invoke/MethodHandle" ∧ yX11_shirt.cls ≠ "java/lang/invoke/VarHandle" ∧ (parseMethodDescriptor yX11_shirt.desc).map (fun d => d.parameters.length) = some 2 := by decide +kernel
theorem gX11_shirt_X11_in : GoodIn kG (va_wsS RX11 75 yX11_in kwX11_in) := gK w27_8 (gK w27_9 (gK w0_5 (gK w27_10 gGG)))
theorem gX11_shirt_X11_noShirt : GoodIn kG (wsV RX11 283 RX11 yX11_noShirt kwX11_noShirt) := gK w28_12 (gK w28_13 (gK w28_14 (gK w0_5 (gK w28_15 gGG))))
theorem gX11_shirt_X11_of : GoodIn kG (wsV RX11 156 RX11 yX11_of kwX11_of) := gK w21_9 (gK w21_10 (gK w21_11 (gK w0_5 (gK w21_12 gGG))))
theorem gX11_shirt_X11_throwsIf : GoodIn kG (wsV RX11 258 RX11 yX11_throwsIf kwX11_throwsIf) := gK w23_6 (gK w23_7 (gK w23_8 (gK w0_5 (gK w23_9 gGG))))
theorem dX11_shirt_0 : decode cX11_shirt 0 = .ok (.aload_n 0, 1) := by decide +kernel
theorem dX11_shirt_1 : decode cX11_shirt 1 = .ok (.iconst 0, 1) := by decide +kernel
theorem dX11_shirt_2 : decode cX11_shirt 2 = .ok (.putfield 3, 3) := by decide +kernel
theorem dX11_shirt_5 : decode cX11_shirt 5 = .ok (.aload_n 0, 1) := by decide +kernel
theorem dX11_shirt_6 : decode cX11_shirt 6 = .ok (.aload_n 0, 1) := by decide +kernel
theorem dX11_shirt_7 : decode cX11_shirt 7 = .ok (.iload_n 1, 1) := by decide +kernel
theorem dX11_shirt_8 : decode cX11_shirt 8 = .ok (.invokevirtual 283, 3) := by decide +kernel
theorem dX11_shirt_11 : decode cX11_shirt 11 = .ok (.iconst 1, 1) := by decide +kernel
theorem dX11_shirt_12 : decode cX11_shirt 12 = .ok (.invokevirtual 258, 3) := by decide +kernel
theorem dX11_shirt_15 : decode cX11_shirt 15 = .ok (.ifCond .ne 26, 3) := by decide +kernel
theorem dX11_shirt_18 : decode cX11_shirt 18 = .ok (.aload_n 0, 1) := by decide +kernel
theorem dX11_shirt_19 : decode cX11_shirt 19 = .ok (.iload_n 2, 1) := by decide +kernel
theorem dX11_shirt_20 : decode cX11_shirt 20 = .ok (.iconst 0, 1) := by decide +kernel
theorem dX11_shirt_21 : decode cX11_shirt 21 = .ok (.bipush 6, 2) := by decide +kernel
theorem dX11_shirt_23 : decode cX11_shirt 23 = .ok (.invokestatic 75, 3) := by decide +kernel
theorem dX11_shirt_26 : decode cX11_shirt 26 = .ok (.ifCond .ne 7, 3) := by decide +kernel
theorem dX11_shirt_29 : decode cX11_shirt 29 = .ok (.iconst 1, 1) := by decide +kernel
theorem dX11_shirt_30 : decode cX11_shirt 30 = .ok (.goto 4, 3) := by decide +kernel
theorem dX11_shirt_33 : decode cX11_shirt 33 = .ok (.iconst 0, 1) := by decide +kernel
theorem dX11_shirt_34 : decode cX11_shirt 34 = .ok (.iconst 2, 1) := by decide +kernel
theorem dX11_shirt_35 : decode cX11_shirt 35 = .ok (.invokevirtual 258, 3) := by decide +kernel
theorem dX11_shirt_38 : decode cX11_shirt 38 = .ok (.ifCond .eq 7, 3) := by decide +kernel
theorem dX11_shirt_41 : decode cX11_shirt 41 = .ok (.iconst 0, 1) := by decide +kernel
theorem dX11_shirt_42 : decode cX11_shirt 42 = .ok (.goto 9, 3) := by decide +kernel
theorem dX11_shirt_45 : decode cX11_shirt 45 = .ok (.aload_n 0, 1) := by decide +kernel
theorem dX11_shirt_46 : decode cX11_shirt 46 = .ok (.iload_n 1, 1) := by decide +kernel
theorem dX11_shirt_47 : decode cX11_shirt 47 = .ok (.iload_n 2, 1) := by decide +kernel
theorem dX11_shirt_48 : decode cX11_shirt 48 = .ok (.invokevirtual 156, 3) := by decide +kernel
theorem dX11_shirt_51 : decode cX11_shirt 51 = .ok (.ireturn, 1) := by decide +kernel
set_option maxHeartbeats 4000000 in
set_option maxRecDepth 100000 in
/-- reference: shirt -/
theorem r_shirt (l : Launch) (D : va_G) (cI cJ cB cC : ClassId) (h : Nat) (th : Int32) (aw : Nat) (ai : Nat) (ab : Nat) (ac : Nat) (hi : Int32) (re : Int32) (aP : Nat) (ta : Int32) (po : Int32) (en : Int32) (be : Int32) (de : Int32) (fa : Int32) (a5 : Nat) (sp : Int32) (av : Nat) (an : Nat) (ak : Nat) (ne : Int32) (aW : Nat) (aC : Nat) (ag : Nat) (aT : Nat) (aN : Nat) (aF : Nat) (fw : Nat → Int32) (mm : Int32) (b : Int32) (sz : Nat) (H_fw_W : wW fw) : Met l yX11_shirt kwX11_shirt ({ frames := 2, cells := 0, slots := 0, locals := 43 } : Room) (kPre D (kT cI cJ cB cC) sz [(h, oX11 th aw ai ab ac hi re aP ta po en be de fa a5 sp av an ak ne aW aC ag aT aN aF), (aw, .inl (cI, 2179, .inl fw))] [.ref h, .int mm, .int b]) (va_Qi (fun (r : Int32) (n0_ : Int32) => True) (fun (n0_ : Int32) (t : State) => kB D (kT cI cJ cB cC) (va_A [(h, oX11 th aw ai ab ac hi re aP ta po en be de fa a5 sp av an ak ne aW aC ag aT aN aF), (aw, .inl (cI, 2179, .inl fw))] sz) [(h, oX11 n0_ aw ai ab ac hi re aP ta po en be de fa a5 sp av an ak ne aW aC ag aT aN aF), (aw, .inl (cI, 2179, .inl fw))] t) (va_A [(h, oX11 th aw ai ab ac hi re aP ta po en be de fa a5 sp av an ak ne aW aC ag aT aN aF), (aw, .inl (cI, 2179, .inl fw))] sz)) 0 0 (va_A [(h, oX11 th aw ai ab ac hi re aP ta po en be de fa a5 sp av an ak ne aW aC ag aT aN aF), (aw, .inl (cI, 2179, .inl fw))] sz) := by
  refine Met.ofW (cc := cX11_shirt) (maxL := 3) (ret := (some .int)) (by decide) rfl ?_
  intro p e s m args below meth c s₁ B hml hv
  obtain ⟨rfl, hsz, hN, hE, hP, hK, hD0⟩ := hv
  have hx := B.exec
  have hb := B.bytes
  have hr := B.returns
  have hts := fun (w : Cond) (h : w ∈ kG) => atoms_spec (ws := kwX11_shirt) B.pre w (List.mem_cons_of_mem _ h)
  have hown : s.vm.findClass RX11 = some m.cls := findClass_of_methodNamed B.named
  subst hsz
  have hD := hD0.self (sz := s.heap.size)
  generalize hAe : va_A [(h, oX11 th aw ai ab ac hi re aP ta po en be de fa a5 sp av an ak ne aW aC ag aT aN aF), (aw, .inl (cI, 2179, .inl fw))] s.heap.size = A at hD hE ⊢
  have hA : ∀ q : Nat, s.heap.size ≤ q → A q := fun q h => by rw [← hAe]; exact Or.inr h
  have hl := lv_entry ([.ref h, .int mm, .int b]) (n := 3) (Nat.le_of_ble_eq_true rfl)
  rw [lg_entry_eq]
  generalize (lg_sl ([.ref h, .int mm, .int b]) ++ List.replicate (3 - (lg_sl ([.ref h, .int mm, .int b])).length) Slot.unset).toArray = ls at hl ⊢
  have hl : lv_has ls 3 [(0, .ref h), (1, .int mm), (2, .int b)] := hl
  obtain ⟨H, hH0⟩ : ∃ H, H = s.heap := ⟨_, rfl⟩
  have hS : va_S A s.heap H [] := by rw [hH0]; exact va_S.rf
  have hP : va_P D vwCl [(h, oX11 th aw ai ab ac hi re aP ta po en be de fa a5 sp av an ak ne aW aC ag aT aN aF), (aw, .inl (cI, 2179, .inl fw))] H := by rw [hH0]; exact hP
  refine kHeap hH0 ?_
  clear hH0
  refine lv_aload_n hx hb dX11_shirt_0 rfl (lv_at hl 0 rfl) ?_
  refine lv_iconst (v := 0) hx hb dX11_shirt_1 (by decide) ?_
  refine va_put (D := D) (ci := 10) (v := .int 0) (ty := .int) (C := RX11) (T := TX11) (N := 26) hx hb hts iG_X11 tyX11 tyX11_ok nmX11 hown hK hP hD hS 0 rfl rfl 0 (by decide) (hts _ w6_8) (fun _ h9 => h9) rfl (by decide +kernel) rfl rfl (Nat.le_of_ble_eq_true rfl) dX11_shirt_2 (fun H locs hP hD hS => ?_)
  have hP : va_P D vwCl [(h, oX11 0 aw ai ab ac hi re aP ta po en be de fa a5 sp av an ak ne aW aC ag aT aN aF), (aw, .inl (cI, 2179, .inl fw))] H := hP
  have hD : va_D A [(h, oX11 0 aw ai ab ac hi re aP ta po en be de fa a5 sp av an ak ne aW aC ag aT aN aF), (aw, .inl (cI, 2179, .inl fw))] := hD
  refine lv_aload_n hx hb dX11_shirt_5 rfl (lv_at hl 0 rfl) ?_
  refine lv_aload_n hx hb dX11_shirt_6 rfl (lv_at hl 0 rfl) ?_
  refine lv_iload_n hx hb dX11_shirt_7 rfl (lv_at hl 1 rfl) ?_
  refine kpurei (wc := [(h, oX11 0 aw ai ab ac hi re aP ta po en be de fa a5 sp av an ak ne aW aC ag aT aN aF), (aw, .inl (cI, 2179, .inl fw))]) hP hD hS hA [0, 1] rfl (by decide) (fun hPc hDc hFc => va_runV (As := [.int mm]) (rest := [.ref h]) ⟨hx, hb, hml, hown, hts⟩ (r_noShirt l D cI cJ cB cC h 0 aw ai ab ac hi re aP ta po en be de fa a5 sp av an ak ne aW aC ag aT aN aF fw mm H.size H_fw_W) (cwV 1 hts gX11_shirt_X11_noShirt rfl rfl rfl ⟨rfl, hdX11_noShirt⟩ ⟨Nat.le_of_ble_eq_true rfl, Nat.le_of_ble_eq_true rfl⟩) ⟨kBlind, va_recv hK hPc (ci := 10) (q0 := 0) rfl rfl, fun U hU hW => ⟨rfl, by rw [hU], hN.warm hW, hE.pass hS hFc hW hU, by rw [hU]; exact hPc, va_K.moved hW.alike hK, hDc⟩⟩ rfl rfl hl.1 rfl (lv_room (Nat.le_of_ble_eq_true rfl)) dX11_shirt_8 ⟨Nat.le_of_ble_eq_true rfl, Nat.le_of_ble_eq_true rfl⟩) (fun r1 u H locs hw hP hS => ?_)
  rcases hw with ⟨rfl, kc2_0, kc2_1⟩ | rfl
  · skip
    refine lv_iconst (v := 1) hx hb dX11_shirt_11 (by decide) ?_
    refine kpurei (wc := [(h, oX11 0 aw ai ab ac hi re aP ta po en be de fa a5 sp av an ak ne aW aC ag aT aN aF)]) hP hD hS hA [0] rfl (by decide) (fun hPc hDc hFc => va_runV (As := [.int 0, .int 1]) (rest := []) ⟨hx, hb, hml, hown, hts⟩ (r_throwsIf0_1 l D cI cJ cB cC h 0 aw ai ab ac hi re aP ta po en be de fa a5 sp av an ak ne aW aC ag aT aN aF 1 H.size) (cwV 2 hts gX11_shirt_X11_throwsIf rfl rfl rfl ⟨rfl, hdX11_throwsIf⟩ ⟨Nat.le_of_ble_eq_true rfl, Nat.le_of_ble_eq_true rfl⟩) ⟨kBlind, va_recv hK hPc (ci := 10) (q0 := 0) rfl rfl, fun U hU hW => ⟨rfl, by rw [hU], hN.warm hW, hE.pass hS hFc hW hU, by rw [hU]; exact hPc, va_K.moved hW.alike hK, hDc⟩⟩ rfl rfl hl.1 rfl (lv_room (Nat.le_of_ble_eq_true rfl)) dX11_shirt_12 ⟨Nat.le_of_ble_eq_true rfl, Nat.le_of_ble_eq_true rfl⟩) (fun r3 u H locs hw hP hS => ?_)
    have k4 := hw
    refine k_join (hd := 51) (cells2 := 0) (slots2 := 0) (fun (u : Int32 × Int32) => match u with | (z20, y21) => [.int z20]) (fun (u : Int32 × Int32) (H : Heap) (locs : List Loc) (ls : Array Slot) => match u with | (z20, y21) => va_P D vwCl [(h, oX11 y21 aw ai ab ac hi re aP ta po en be de fa a5 sp av an ak ne aW aC ag aT aN aF), (aw, .inl (cI, 2179, .inl fw))] H ∧ va_D A [(h, oX11 y21 aw ai ab ac hi re aP ta po en be de fa a5 sp av an ak ne aW aC ag aT aN aF), (aw, .inl (cI, 2179, .inl fw))] ∧ va_S A s.heap H locs ∧ lv_has ls 3 [(0, .ref h), (1, .int mm), (2, .int b)]) (fun u H locs ls hI => ?_) (fun hJ51 => ?_)
    · skip
      clear hP hD hS hl
      obtain ⟨z20, y21⟩ := u
      obtain ⟨hP, hD, hS, hl⟩ := hI
      have hP : va_P D vwCl [(h, oX11 y21 aw ai ab ac hi re aP ta po en be de fa a5 sp av an ak ne aW aC ag aT aN aF), (aw, .inl (cI, 2179, .inl fw))] H := hP
      have hD : va_D A [(h, oX11 y21 aw ai ab ac hi re aP ta po en be de fa a5 sp av an ak ne aW aC ag aT aN aF), (aw, .inl (cI, 2179, .inl fw))] := hD
      have hl : lv_has ls 3 [(0, .ref h), (1, .int mm), (2, .int b)] := hl
      show W _ _ _ _ _ _ _ _ _ _ _ _ _ _ _ (F0 m 51 ls [.int z20])
      have hP9 := hP.sub (ws' := [(h, oX11 y21 aw ai ab ac hi re aP ta po en be de fa a5 sp av an ak ne aW aC ag aT aN aF), (aw, .inl (cI, 2179, .inl fw))]) [0, 1] rfl
      have hD9 := hD.sub (ws' := [(h, oX11 y21 aw ai ab ac hi re aP ta po en be de fa a5 sp av an ak ne aW aC ag aT aN aF), (aw, .inl (cI, 2179, .inl fw))]) [0, 1] (by decide) rfl
      exact W.iret (v := z20) hx hb hr (fun t ht hW => ⟨⟨z20, (y21), rfl, trivial, by rw [ht]; exact hP9, va_K.moved hW.alike hK, hD9⟩, hS.F ht⟩) hS.2.2 dX11_shirt_51
    refine lv_if_ne (tgt := 41) hx hb dX11_shirt_15 (by decide) (fun c22 => absurd (rg_eq k4 (rg_lit (n := 0) (by decide)) (by decide)) c22) (fun _ => ?_)
    refine lv_aload_n hx hb dX11_shirt_18 rfl (lv_at hl 0 rfl) ?_
    refine lv_iload_n hx hb dX11_shirt_19 rfl (lv_at hl 2 rfl) ?_
    refine lv_iconst (v := 0) hx hb dX11_shirt_20 (by decide) ?_
    refine lv_bipush (v := 6) hx hb dX11_shirt_21 (by decide) ?_
    refine kpurei (wc := []) hP hD hS hA [] rfl (by decide) (fun hPc hDc hFc => va_runS (As := [.int b, .int 0, .int 6]) (rest := [.ref h]) ⟨hx, hb, hml, hown, hts⟩ (r_in_0_6 l D cI cJ cB cC b H.size) (va_cwS 3 hts gX11_shirt_X11_in rfl rfl rfl hdX11_in ⟨Nat.le_of_ble_eq_true rfl, Nat.le_of_ble_eq_true rfl⟩) ⟨kBlind, fun U hU hW => ⟨rfl, by rw [hU], hN.warm hW, hE.pass hS hFc hW hU, by rw [hU]; exact hPc, va_K.moved hW.alike hK, hDc⟩⟩ rfl rfl hl.1 rfl (lv_room (Nat.le_of_ble_eq_true rfl)) dX11_shirt_23 ⟨Nat.le_of_ble_eq_true rfl, Nat.le_of_ble_eq_true rfl⟩) (fun r23 u H locs hw hP hS => ?_)
    rcases hw with rfl | ⟨rfl, kc24_0⟩
    · skip
      refine lv_if_ne (tgt := 33) hx hb dX11_shirt_26 (by decide) (fun c26 => absurd (by decide) c26) (fun _ => ?_)
      refine lv_iconst (v := 1) hx hb dX11_shirt_29 (by decide) ?_
      refine lv_goto (tgt := 34) hx hb dX11_shirt_30 (by decide) ?_
      refine lv_iconst (v := 2) hx hb dX11_shirt_34 (by decide) ?_
      refine kcalli (wc := [(h, oX11 0 aw ai ab ac hi re aP ta po en be de fa a5 sp av an ak ne aW aC ag aT aN aF)]) (wr := [(aw, .inl (cI, 2179, .inl fw))]) hP hD hS hA [0] [1] rfl rfl (by decide) (by decide) (by decide) (fun hPc hDc hFc => va_runV (As := [.int 1, .int 2]) (rest := []) ⟨hx, hb, hml, hown, hts⟩ (r_throwsIf1_1 l D cI cJ cB cC h 0 aw ai ab ac hi re aP ta po en be de fa a5 sp av an ak ne aW aC ag aT aN aF 2 H.size) (cwV 2 hts gX11_shirt_X11_throwsIf rfl rfl rfl ⟨rfl, hdX11_throwsIf⟩ ⟨Nat.le_of_ble_eq_true rfl, Nat.le_of_ble_eq_true rfl⟩) ⟨kBlind, va_recv hK hPc (ci := 10) (q0 := 0) rfl rfl, fun U hU hW => ⟨rfl, by rw [hU], hN.warm hW, hE.pass hS hFc hW hU, by rw [hU]; exact hPc, va_K.moved hW.alike hK, hDc⟩⟩ rfl rfl hl.1 rfl (lv_room (Nat.le_of_ble_eq_true rfl)) dX11_shirt_35 ⟨Nat.le_of_ble_eq_true rfl, Nat.le_of_ble_eq_true rfl⟩) (fun r27 u H locs hw hP hD hS => ?_)
      obtain ⟨x28, rfl⟩ : ∃ z, z = u := ⟨_, rfl⟩
      have hP : va_P D vwCl [(aw, .inl (cI, 2179, .inl fw)), (h, oX11 x28 aw ai ab ac hi re aP ta po en be de fa a5 sp av an ak ne aW aC ag aT aN aF)] H := hP
      have hD : va_D A [(aw, .inl (cI, 2179, .inl fw)), (h, oX11 x28 aw ai ab ac hi re aP ta po en be de fa a5 sp av an ak ne aW aC ag aT aN aF)] := hD
      have k29 := hw
      refine lv_if_eq (tgt := 45) hx hb dX11_shirt_38 (by decide) (fun c30 => absurd c30 (rg_neq k29 (rg_lit (n := 0) (by decide)) (by decide))) (fun _ => ?_)
      refine lv_iconst (v := 0) hx hb dX11_shirt_41 (by decide) ?_
      refine lv_goto (tgt := 51) hx hb dX11_shirt_42 (by decide) ?_
      exact hJ51 ((0 : Int32), x28) _ _ _ ⟨hP.sub (ws' := [(h, oX11 x28 aw ai ab ac hi re aP ta po en be de fa a5 sp av an ak ne aW aC ag aT aN aF), (aw, .inl (cI, 2179, .inl fw))]) [1, 0] rfl, hD.sub (ws' := [(h, oX11 x28 aw ai ab ac hi re aP ta po en be de fa a5 sp av an ak ne aW aC ag aT aN aF), (aw, .inl (cI, 2179, .inl fw))]) [1, 0] (by decide) rfl, hS, lv_sub (l' := [(0, .ref h), (1, .int mm), (2, .int b)]) hl [0, 1, 2] rfl⟩
    · skip
      refine lv_if_ne (tgt := 33) hx hb dX11_shirt_26 (by decide) (fun _ => ?_) (fun c32 => absurd c32 (by decide))
      refine lv_iconst (v := 0) hx hb dX11_shirt_33 (by decide) ?_
      refine lv_iconst (v := 2) hx hb dX11_shirt_34 (by decide) ?_
      refine kpurei (wc := [(h, oX11 0 aw ai ab ac hi re aP ta po en be de fa a5 sp av an ak ne aW aC ag aT aN aF)]) hP hD hS hA [0] rfl (by decide) (fun hPc hDc hFc => va_runV (As := [.int 0, .int 2]) (rest := []) ⟨hx, hb, hml, hown, hts⟩ (r_throwsIf0_1 l D cI cJ cB cC h 0 aw ai ab ac hi re aP ta po en be de fa a5 sp av an ak ne aW aC ag aT aN aF 2 H.size) (cwV 2 hts gX11_shirt_X11_throwsIf rfl rfl rfl ⟨rfl, hdX11_throwsIf⟩ ⟨Nat.le_of_ble_eq_true rfl, Nat.le_of_ble_eq_true rfl⟩) ⟨kBlind, va_recv hK hPc (ci := 10) (q0 := 0) rfl rfl, fun U hU hW => ⟨rfl, by rw [hU], hN.warm hW, hE.pass hS hFc hW hU, by rw [hU]; exact hPc, va_K.moved hW.alike hK, hDc⟩⟩ rfl rfl hl.1 rfl (lv_room (Nat.le_of_ble_eq_true rfl)) dX11_shirt_35 ⟨Nat.le_of_ble_eq_true rfl, Nat.le_of_ble_eq_true rfl⟩) (fun r33 u H locs hw hP hS => ?_)
      have k34 := hw
      refine lv_if_eq (tgt := 45) hx hb dX11_shirt_38 (by decide) (fun _ => ?_) (fun c35 => absurd (rg_eq k34 (rg_lit (n := 0) (by decide)) (by decide)) c35)
      refine lv_aload_n hx hb dX11_shirt_45 rfl (lv_at hl 0 rfl) ?_
      refine lv_iload_n hx hb dX11_shirt_46 rfl (lv_at hl 1 rfl) ?_
      refine lv_iload_n hx hb dX11_shirt_47 rfl (lv_at hl 2 rfl) ?_
      refine kpurei (wc := [(h, oX11 0 aw ai ab ac hi re aP ta po en be de fa a5 sp av an ak ne aW aC ag aT aN aF), (aw, .inl (cI, 2179, .inl fw))]) hP hD hS hA [0, 1] rfl (by decide) (fun hPc hDc hFc => va_runV (As := [.int mm, .int b]) (rest := []) ⟨hx, hb, hml, hown, hts⟩ (r_of l D cI cJ cB cC h 0 aw ai ab ac hi re aP ta po en be de fa a5 sp av an ak ne aW aC ag aT aN aF fw mm b H.size kc2_0 kc24_0 H_fw_W) (cwV 2 hts gX11_shirt_X11_of rfl rfl rfl ⟨rfl, hdX11_of⟩ ⟨Nat.le_of_ble_eq_true rfl, Nat.le_of_ble_eq_true rfl⟩) ⟨kBlind, va_recv hK hPc (ci := 10) (q0 := 0) rfl rfl, fun U hU hW => ⟨rfl, by rw [hU], hN.warm hW, hE.pass hS hFc hW hU, by rw [hU]; exact hPc, va_K.moved hW.alike hK, hDc⟩⟩ rfl rfl hl.1 rfl (lv_room (Nat.le_of_ble_eq_true rfl)) dX11_shirt_48 ⟨Nat.le_of_ble_eq_true rfl, Nat.le_of_ble_eq_true rfl⟩) (fun r36 u H locs hw hP hS => ?_)
      exact hJ51 (r36, (0 : Int32)) _ _ _ ⟨hP.sub (ws' := [(h, oX11 0 aw ai ab ac hi re aP ta po en be de fa a5 sp av an ak ne aW aC ag aT aN aF), (aw, .inl (cI, 2179, .inl fw))]) [0, 1] rfl, hD.sub (ws' := [(h, oX11 0 aw ai ab ac hi re aP ta po en be de fa a5 sp av an ak ne aW aC ag aT aN aF), (aw, .inl (cI, 2179, .inl fw))]) [0, 1] (by decide) rfl, hS, lv_sub (l' := [(0, .ref h), (1, .int mm), (2, .int b)]) hl [0, 1, 2] rfl⟩
  · skip
    refine lv_iconst (v := 1) hx hb dX11_shirt_11 (by decide) ?_
    refine kcalli (wc := [(h, oX11 0 aw ai ab ac hi re aP ta po en be de fa a5 sp av an ak ne aW aC ag aT aN aF)]) (wr := [(aw, .inl (cI, 2179, .inl fw))]) hP hD hS hA [0] [1] rfl rfl (by decide) (by decide) (by decide) (fun hPc hDc hFc => va_runV (As := [.int 1, .int 1]) (rest := []) ⟨hx, hb, hml, hown, hts⟩ (r_throwsIf1_1 l D cI cJ cB cC h 0 aw ai ab ac hi re aP ta po en be de fa a5 sp av an ak ne aW aC ag aT aN aF 1 H.size) (cwV 2 hts gX11_shirt_X11_throwsIf rfl rfl rfl ⟨rfl, hdX11_throwsIf⟩ ⟨Nat.le_of_ble_eq_true rfl, Nat.le_of_ble_eq_true rfl⟩) ⟨kBlind, va_recv hK hPc (ci := 10) (q0 := 0) rfl rfl, fun U hU hW => ⟨rfl, by rw [hU], hN.warm hW, hE.pass hS hFc hW hU, by rw [hU]; exact hPc, va_K.moved hW.alike hK, hDc⟩⟩ rfl rfl hl.1 rfl (lv_room (Nat.le_of_ble_eq_true rfl)) dX11_shirt_12 ⟨Nat.le_of_ble_eq_true rfl, Nat.le_of_ble_eq_true rfl⟩) (fun r37 u H locs hw hP hD hS => ?_)
    obtain ⟨x38, rfl⟩ : ∃ z, z = u := ⟨_, rfl⟩
    have hP : va_P D vwCl [(aw, .inl (cI, 2179, .inl fw)), (h, oX11 x38 aw ai ab ac hi re aP ta po en be de fa a5 sp av an ak ne aW aC ag aT aN aF)] H := hP
    have hD : va_D A [(aw, .inl (cI, 2179, .inl fw)), (h, oX11 x38 aw ai ab ac hi re aP ta po en be de fa a5 sp av an ak ne aW aC ag aT aN aF)] := hD
    have k39 := hw
    refine lv_if_ne (tgt := 41) hx hb dX11_shirt_15 (by decide) (fun _ => ?_) (fun c41 => absurd c41 (rg_neq k39 (rg_lit (n := 0) (by decide)) (by decide)))
    refine lv_iconst (v := 0) hx hb dX11_shirt_41 (by decide) ?_
    refine lv_goto (tgt := 51) hx hb dX11_shirt_42 (by decide) ?_
    have hP9 := hP.sub (ws' := [(h, oX11 x38 aw ai ab ac hi re aP ta po en be de fa a5 sp av an ak ne aW aC ag aT aN aF), (aw, .inl (cI, 2179, .inl fw))]) [1, 0] rfl
    have hD9 := hD.sub (ws' := [(h, oX11 x38 aw ai ab ac hi re aP ta po en be de fa a5 sp av an ak ne aW aC ag aT aN aF), (aw, .inl (cI, 2179, .inl fw))]) [1, 0] (by decide) rfl
    exact W.iret (v := 0) hx hb hr (fun t ht hW => ⟨⟨0, (x38), rfl, trivial, by rw [ht]; exact hP9, va_K.moved hW.alike hK, hD9⟩, hS.F ht⟩) hS.2.2 dX11_shirt_51

def kwX11_ledger : List Cond := .code yX11_ledger cX11_ledger 3 (some .int) :: kG
theorem hdX11_ledger : yX11_ledger.cls ≠ "java/lang/invoke/MethodHandle" ∧ yX11_ledger.cls ≠ "java/lang/invoke/VarHandle" ∧ (parseMethodDescriptor yX11_ledger.desc).map (fun d => d.parameters.length) = some 2 := by decide +kernel
theorem gX11_ledger_X11_in : GoodIn kG (va_wsS RX11 75 yX11_in kwX11_in) := gK w27_8 (gK w27_9 (gK w0_5 (gK w27_10 gGG)))
theorem gX11_ledger_X11_noShirt : GoodIn kG (wsV RX11 283 RX11 yX11_noShirt kwX11_noShirt) := gK w28_12 (gK w28_13 (gK w28_14 (gK w0_5 (gK w28_15 gGG))))
theorem gX11_ledger_X11_throwsIf : GoodIn kG (wsV RX11 258 RX11 yX11_throwsIf kwX11_throwsIf) := gK w23_6 (gK w23_7 (gK w23_8 (gK w0_5 (gK w23_9 gGG))))
theorem dX11_ledger_0 : decode cX11_ledger 0 = .ok (.aload_n 0, 1) := by decide +kernel
theorem dX11_ledger_1 : decode cX11_ledger 1 = .ok (.iconst 0, 1) := by decide +kernel
theorem dX11_ledger_2 : decode cX11_ledger 2 = .ok (.putfield 3, 3) := by decide +kernel
theorem dX11_ledger_5 : decode cX11_ledger 5 = .ok (.aload_n 0, 1) := by decide +kernel
theorem dX11_ledger_6 : decode cX11_ledger 6 = .ok (.aload_n 0, 1) := by decide +kernel
theorem dX11_ledger_7 : decode cX11_ledger 7 = .ok (.iload_n 2, 1) := by decide +kernel
theorem dX11_ledger_8 : decode cX11_ledger 8 = .ok (.invokevirtual 283, 3) := by decide +kernel
theorem dX11_ledger_11 : decode cX11_ledger 11 = .ok (.iconst 1, 1) := by decide +kernel
theorem dX11_ledger_12 : decode cX11_ledger 12 = .ok (.invokevirtual 258, 3) := by decide +kernel
theorem dX11_ledger_15 : decode cX11_ledger 15 = .ok (.ifCond .eq 5, 3) := by decide +kernel
theorem dX11_ledger_18 : decode cX11_ledger 18 = .ok (.iconst 0, 1) := by decide +kernel
theorem dX11_ledger_19 : decode cX11_ledger 19 = .ok (.ireturn, 1) := by decide +kernel
theorem dX11_ledger_20 : decode cX11_ledger 20 = .ok (.iload_n 1, 1) := by decide +kernel
theorem dX11_ledger_21 : decode cX11_ledger 21 = .ok (.iconst 0, 1) := by decide +kernel
theorem dX11_ledger_22 : decode cX11_ledger 22 = .ok (.aload_n 0, 1) := by decide +kernel
theorem dX11_ledger_23 : decode cX11_ledger 23 = .ok (.getfield 13, 3) := by decide +kernel
theorem dX11_ledger_26 : decode cX11_ledger 26 = .ok (.bipush 10, 2) := by decide +kernel
theorem dX11_ledger_28 : decode cX11_ledger 28 = .ok (.iaload, 1) := by decide +kernel
theorem dX11_ledger_29 : decode cX11_ledger 29 = .ok (.iconst 1, 1) := by decide +kernel
theorem dX11_ledger_30 : decode cX11_ledger 30 = .ok (.isub, 1) := by decide +kernel
theorem dX11_ledger_31 : decode cX11_ledger 31 = .ok (.invokestatic 75, 3) := by decide +kernel
theorem dX11_ledger_34 : decode cX11_ledger 34 = .ok (.ifCond .eq 21, 3) := by decide +kernel
theorem dX11_ledger_37 : decode cX11_ledger 37 = .ok (.aload_n 0, 1) := by decide +kernel
theorem dX11_ledger_38 : decode cX11_ledger 38 = .ok (.getfield 13, 3) := by decide +kernel
theorem dX11_ledger_41 : decode cX11_ledger 41 = .ok (.sipush 145, 3) := by decide +kernel
theorem dX11_ledger_44 : decode cX11_ledger 44 = .ok (.bipush 12, 2) := by decide +kernel
theorem dX11_ledger_46 : decode cX11_ledger 46 = .ok (.iload_n 1, 1) := by decide +kernel
theorem dX11_ledger_47 : decode cX11_ledger 47 = .ok (.imul, 1) := by decide +kernel
theorem dX11_ledger_48 : decode cX11_ledger 48 = .ok (.iadd, 1) := by decide +kernel
theorem dX11_ledger_49 : decode cX11_ledger 49 = .ok (.iload_n 2, 1) := by decide +kernel
theorem dX11_ledger_50 : decode cX11_ledger 50 = .ok (.iadd, 1) := by decide +kernel
theorem dX11_ledger_51 : decode cX11_ledger 51 = .ok (.iaload, 1) := by decide +kernel
theorem dX11_ledger_52 : decode cX11_ledger 52 = .ok (.goto 4, 3) := by decide +kernel
theorem dX11_ledger_55 : decode cX11_ledger 55 = .ok (.iconst (-1), 1) := by decide +kernel
theorem dX11_ledger_56 : decode cX11_ledger 56 = .ok (.ireturn, 1) := by decide +kernel
set_option maxHeartbeats 4000000 in
set_option maxRecDepth 100000 in
/-- reference: ledger -/
theorem r_ledger (l : Launch) (D : va_G) (cI cJ cB cC : ClassId) (h : Nat) (th : Int32) (aw : Nat) (ai : Nat) (ab : Nat) (ac : Nat) (hi : Int32) (re : Int32) (aP : Nat) (ta : Int32) (po : Int32) (en : Int32) (be : Int32) (de : Int32) (fa : Int32) (a5 : Nat) (sp : Int32) (av : Nat) (an : Nat) (ak : Nat) (ne : Int32) (aW : Nat) (aC : Nat) (ag : Nat) (aT : Nat) (aN : Nat) (aF : Nat) (fw : Nat → Int32) (mm : Int32) (b : Int32) (sz : Nat) (H_fw_W : wW fw) : Met l yX11_ledger kwX11_ledger ({ frames := 2, cells := 0, slots := 0, locals := 43 } : Room) (kPre D (kT cI cJ cB cC) sz [(h, oX11 th aw ai ab ac hi re aP ta po en be de fa a5 sp av an ak ne aW aC ag aT aN aF), (aw, .inl (cI, 2179, .inl fw))] [.ref h, .int mm, .int b]) (va_Qi (fun (r : Int32) (n0_ : Int32) => True) (fun (n0_ : Int32) (t : State) => kB D (kT cI cJ cB cC) (va_A [(h, oX11 th aw ai ab ac hi re aP ta po en be de fa a5 sp av an ak ne aW aC ag aT aN aF), (aw, .inl (cI, 2179, .inl fw))] sz) [(h, oX11 n0_ aw ai ab ac hi re aP ta po en be de fa a5 sp av an ak ne aW aC ag aT aN aF), (aw, .inl (cI, 2179, .inl fw))] t) (va_A [(h, oX11 th aw ai ab ac hi re aP ta po en be de fa a5 sp av an ak ne aW aC ag aT aN aF), (aw, .inl (cI, 2179, .inl fw))] sz)) 0 0 (va_A [(h, oX11 th aw ai ab ac hi re aP ta po en be de fa a5 sp av an ak ne aW aC ag aT aN aF), (aw, .inl (cI, 2179, .inl fw))] sz) := by
  refine Met.ofW (cc := cX11_ledger) (maxL := 3) (ret := (some .int)) (by decide) rfl ?_
  intro p e s m args below meth c s₁ B hml hv
  obtain ⟨rfl, hsz, hN, hE, hP, hK, hD0⟩ := hv
  have hx := B.exec
  have hb := B.bytes
  have hr := B.returns
  have hts := fun (w : Cond) (h : w ∈ kG) => atoms_spec (ws := kwX11_ledger) B.pre w (List.mem_cons_of_mem _ h)
  have hown : s.vm.findClass RX11 = some m.cls := findClass_of_methodNamed B.named
  subst hsz
  have hD := hD0.self (sz := s.heap.size)
  generalize hAe : va_A [(h, oX11 th aw ai ab ac hi re aP ta po en be de fa a5 sp av an ak ne aW aC ag aT aN aF), (aw, .inl (cI, 2179, .inl fw))] s.heap.size = A at hD hE ⊢
  have hA : ∀ q : Nat, s.heap.size ≤ q → A q := fun q h => by rw [← hAe]; exact Or.inr h
  have hl := lv_entry ([.ref h, .int mm, .int b]) (n := 3) (Nat.le_of_ble_eq_true rfl)
  rw [lg_entry_eq]
  generalize (lg_sl ([.ref h, .int mm, .int b]) ++ List.replicate (3 - (lg_sl ([.ref h, .int mm, .int b])).length) Slot.unset).toArray = ls at hl ⊢
  have hl : lv_has ls 3 [(0, .ref h), (1, .int mm), (2, .int b)] := hl
  obtain ⟨H, hH0⟩ : ∃ H, H = s.heap := ⟨_, rfl⟩
  have hS : va_S A s.heap H [] := by rw [hH0]; exact va_S.rf
  have hP : va_P D vwCl [(h, oX11 th aw ai ab ac hi re aP ta po en be de fa a5 sp av an ak ne aW aC ag aT aN aF), (aw, .inl (cI, 2179, .inl fw))] H := by rw [hH0]; exact hP
  refine kHeap hH0 ?_
  clear hH0
  refine lv_aload_n hx hb dX11_ledger_0 rfl (lv_at hl 0 rfl) ?_
  refine lv_iconst (v := 0) hx hb dX11_ledger_1 (by decide) ?_
  refine va_put (D := D) (ci := 10) (v := .int 0) (ty := .int) (C := RX11) (T := TX11) (N := 26) hx hb hts iG_X11 tyX11 tyX11_ok nmX11 hown hK hP hD hS 0 rfl rfl 0 (by decide) (hts _ w6_8) (fun _ h9 => h9) rfl (by decide +kernel) rfl rfl (Nat.le_of_ble_eq_true rfl) dX11_ledger_2 (fun H locs hP hD hS => ?_)
  have hP : va_P D vwCl [(h, oX11 0 aw ai ab ac hi re aP ta po en be de fa a5 sp av an ak ne aW aC ag aT aN aF), (aw, .inl (cI, 2179, .inl fw))] H := hP
  have hD : va_D A [(h, oX11 0 aw ai ab ac hi re aP ta po en be de fa a5 sp av an ak ne aW aC ag aT aN aF), (aw, .inl (cI, 2179, .inl fw))] := hD
  refine lv_aload_n hx hb dX11_ledger_5 rfl (lv_at hl 0 rfl) ?_
  refine lv_aload_n hx hb dX11_ledger_6 rfl (lv_at hl 0 rfl) ?_
  refine lv_iload_n hx hb dX11_ledger_7 rfl (lv_at hl 2 rfl) ?_
  refine kpurei (wc := [(h, oX11 0 aw ai ab ac hi re aP ta po en be de fa a5 sp av an ak ne aW aC ag aT aN aF), (aw, .inl (cI, 2179, .inl fw))]) hP hD hS hA [0, 1] rfl (by decide) (fun hPc hDc hFc => va_runV (As := [.int b]) (rest := [.ref h]) ⟨hx, hb, hml, hown, hts⟩ (r_noShirt l D cI cJ cB cC h 0 aw ai ab ac hi re aP ta po en be de fa a5 sp av an ak ne aW aC ag aT aN aF fw b H.size H_fw_W) (cwV 1 hts gX11_ledger_X11_noShirt rfl rfl rfl ⟨rfl, hdX11_noShirt⟩ ⟨Nat.le_of_ble_eq_true rfl, Nat.le_of_ble_eq_true rfl⟩) ⟨kBlind, va_recv hK hPc (ci := 10) (q0 := 0) rfl rfl, fun U hU hW => ⟨rfl, by rw [hU], hN.warm hW, hE.pass hS hFc hW hU, by rw [hU]; exact hPc, va_K.moved hW.alike hK, hDc⟩⟩ rfl rfl hl.1 rfl (lv_room (Nat.le_of_ble_eq_true rfl)) dX11_ledger_8 ⟨Nat.le_of_ble_eq_true rfl, Nat.le_of_ble_eq_true rfl⟩) (fun r1 u H locs hw hP hS => ?_)
  rcases hw with ⟨rfl, kc2_0, kc2_1⟩ | rfl
  · skip
    refine lv_iconst (v := 1) hx hb dX11_ledger_11 (by decide) ?_
    refine kpurei (wc := [(h, oX11 0 aw ai ab ac hi re aP ta po en be de fa a5 sp av an ak ne aW aC ag aT aN aF)]) hP hD hS hA [0] rfl (by decide) (fun hPc hDc hFc => va_runV (As := [.int 0, .int 1]) (rest := []) ⟨hx, hb, hml, hown, hts⟩ (r_throwsIf0_1 l D cI cJ cB cC h 0 aw ai ab ac hi re aP ta po en be de fa a5 sp av an ak ne aW aC ag aT aN aF 1 H.size) (cwV 2 hts gX11_ledger_X11_throwsIf rfl rfl rfl ⟨rfl, hdX11_throwsIf⟩ ⟨Nat.le_of_ble_eq_true rfl, Nat.le_of_ble_eq_true rfl⟩) ⟨kBlind, va_recv hK hPc (ci := 10) (q0 := 0) rfl rfl, fun U hU hW => ⟨rfl, by rw [hU], hN.warm hW, hE.pass hS hFc hW hU, by rw [hU]; exact hPc, va_K.moved hW.alike hK, hDc⟩⟩ rfl rfl hl.1 rfl (lv_room (Nat.le_of_ble_eq_true rfl)) dX11_ledger_12 ⟨Nat.le_of_ble_eq_true rfl, Nat.le_of_ble_eq_true rfl⟩) (fun r3 u H locs hw hP hS => ?_)
    have k4 := hw
    refine lv_if_eq (tgt := 20) hx hb dX11_ledger_15 (by decide) (fun _ => ?_) (fun c5 => absurd (rg_eq k4 (rg_lit (n := 0) (by decide)) (by decide)) c5)
    refine lv_iload_n hx hb dX11_ledger_20 rfl (lv_at hl 1 rfl) ?_
    refine lv_iconst (v := 0) hx hb dX11_ledger_21 (by decide) ?_
    refine lv_aload_n hx hb dX11_ledger_22 rfl (lv_at hl 0 rfl) ?_
    refine va_get (D := D) (ci := 10) (v := .ref aw) (C := RX11) (T := TX11) (N := 26) hx hb hts iG_X11 hown hK hP 0 rfl rfl 1 (by decide) (hts _ w5_3) (fun _ h9 => h9) rfl dX11_ledger_23 ?_
    refine lv_bipush (v := 10) hx hb dX11_ledger_26 (by decide) ?_
    refine va_iald hx hb hK hP 1 0 rfl rfl (rg_in (rg_lit (n := 10) (by decide)) (by decide)) dX11_ledger_28 ?_
    refine lv_topi (fun x6 ex6 => ?_)
    have k7 : Rg x6 0 30 := wW_10 H_fw_W ex6
    clear ex6
    refine lv_iconst (v := 1) hx hb dX11_ledger_29 (by decide) ?_
    refine lv_isub hx hb dX11_ledger_30 ?_
    refine lv_topi (fun x8 ex8 => ?_)
    have k9 : Rg x8 (-1) 29 := rg_sub ex8 k7 (rg_lit (n := 1) (by decide)) (by decide)
    clear ex8
    refine kpurei (wc := []) hP hD hS hA [] rfl (by decide) (fun hPc hDc hFc => va_runS (As := [.int mm, .int 0, .int x8]) (rest := []) ⟨hx, hb, hml, hown, hts⟩ (r_in_rows l D cI cJ cB cC mm x8 H.size k9) (va_cwS 3 hts gX11_ledger_X11_in rfl rfl rfl hdX11_in ⟨Nat.le_of_ble_eq_true rfl, Nat.le_of_ble_eq_true rfl⟩) ⟨kBlind, fun U hU hW => ⟨rfl, by rw [hU], hN.warm hW, hE.pass hS hFc hW hU, by rw [hU]; exact hPc, va_K.moved hW.alike hK, hDc⟩⟩ rfl rfl hl.1 rfl (lv_room (Nat.le_of_ble_eq_true rfl)) dX11_ledger_31 ⟨Nat.le_of_ble_eq_true rfl, Nat.le_of_ble_eq_true rfl⟩) (fun r10 u H locs hw hP hS => ?_)
    rcases hw with rfl | ⟨rfl, kc11_0, kc11_1, kc11_2⟩
    · skip
      refine lv_if_eq (tgt := 55) hx hb dX11_ledger_34 (by decide) (fun _ => ?_) (fun c13 => absurd (by decide) c13)
      refine lv_iconst (v := (-1)) hx hb dX11_ledger_55 (by decide) ?_
      have hP9 := hP.sub (ws' := [(h, oX11 0 aw ai ab ac hi re aP ta po en be de fa a5 sp av an ak ne aW aC ag aT aN aF), (aw, .inl (cI, 2179, .inl fw))]) [0, 1] rfl
      have hD9 := hD.sub (ws' := [(h, oX11 0 aw ai ab ac hi re aP ta po en be de fa a5 sp av an ak ne aW aC ag aT aN aF), (aw, .inl (cI, 2179, .inl fw))]) [0, 1] (by decide) rfl
      exact W.iret (v := (-1)) hx hb hr (fun t ht hW => ⟨⟨(-1), ((0 : Int32)), rfl, trivial, by rw [ht]; exact hP9, va_K.moved hW.alike hK, hD9⟩, hS.F ht⟩) hS.2.2 dX11_ledger_56
    · skip
      refine lv_if_eq (tgt := 55) hx hb dX11_ledger_34 (by decide) (fun c22 => absurd c22 (by decide)) (fun _ => ?_)
      refine lv_aload_n hx hb dX11_ledger_37 rfl (lv_at hl 0 rfl) ?_
      refine va_get (D := D) (ci := 10) (v := .ref aw) (C := RX11) (T := TX11) (N := 26) hx hb hts iG_X11 hown hK hP 0 rfl rfl 1 (by decide) (hts _ w5_3) (fun _ h9 => h9) rfl dX11_ledger_38 ?_
      refine lv_sipush (v := 145) hx hb dX11_ledger_41 (by decide) ?_
      refine lv_bipush (v := 12) hx hb dX11_ledger_44 (by decide) ?_
      refine lv_iload_n hx hb dX11_ledger_46 rfl (lv_at hl 1 rfl) ?_
      refine lv_imul hx hb dX11_ledger_47 ?_
      refine lv_topi (fun x23 ex23 => ?_)
      have k24 : Rg x23 0 348 := rg_mul ex23 (rg_lit (n := 12) (by decide)) kc11_0 (by decide)
      clear ex23
      refine lv_iadd hx hb dX11_ledger_48 ?_
      refine lv_topi (fun x25 ex25 => ?_)
      have k26 : Rg x25 145 493 := rg_add ex25 (rg_lit (n := 145) (by decide)) k24 (by decide)
      clear ex25
      refine lv_iload_n hx hb dX11_ledger_49 rfl (lv_at hl 2 rfl) ?_
      refine lv_iadd hx hb dX11_ledger_50 ?_
      refine lv_topi (fun x27 ex27 => ?_)
      have k28 : Rg x27 145 504 := rg_add ex27 k26 kc2_0 (by decide)
      refine va_iald hx hb hK hP 1 0 rfl rfl (rg_in k28 (by decide)) dX11_ledger_51 ?_
      refine lv_topi (fun x29 ex29 => ?_)
      clear ex29
      refine lv_goto (tgt := 56) hx hb dX11_ledger_52 (by decide) ?_
      have hP9 := hP.sub (ws' := [(h, oX11 0 aw ai ab ac hi re aP ta po en be de fa a5 sp av an ak ne aW aC ag aT aN aF), (aw, .inl (cI, 2179, .inl fw))]) [0, 1] rfl
      have hD9 := hD.sub (ws' := [(h, oX11 0 aw ai ab ac hi re aP ta po en be de fa a5 sp av an ak ne aW aC ag aT aN aF), (aw, .inl (cI, 2179, .inl fw))]) [0, 1] (by decide) rfl
      exact W.iret (v := x29) hx hb hr (fun t ht hW => ⟨⟨x29, ((0 : Int32)), rfl, trivial, by rw [ht]; exact hP9, va_K.moved hW.alike hK, hD9⟩, hS.F ht⟩) hS.2.2 dX11_ledger_56
  · skip
    refine lv_iconst (v := 1) hx hb dX11_ledger_11 (by decide) ?_
    refine kcalli (wc := [(h, oX11 0 aw ai ab ac hi re aP ta po en be de fa a5 sp av an ak ne aW aC ag aT aN aF)]) (wr := [(aw, .inl (cI, 2179, .inl fw))]) hP hD hS hA [0] [1] rfl rfl (by decide) (by decide) (by decide) (fun hPc hDc hFc => va_runV (As := [.int 1, .int 1]) (rest := []) ⟨hx, hb, hml, hown, hts⟩ (r_throwsIf1_1 l D cI cJ cB cC h 0 aw ai ab ac hi re aP ta po en be de fa a5 sp av an ak ne aW aC ag aT aN aF 1 H.size) (cwV 2 hts gX11_ledger_X11_throwsIf rfl rfl rfl ⟨rfl, hdX11_throwsIf⟩ ⟨Nat.le_of_ble_eq_true rfl, Nat.le_of_ble_eq_true rfl⟩) ⟨kBlind, va_recv hK hPc (ci := 10) (q0 := 0) rfl rfl, fun U hU hW => ⟨rfl, by rw [hU], hN.warm hW, hE.pass hS hFc hW hU, by rw [hU]; exact hPc, va_K.moved hW.alike hK, hDc⟩⟩ rfl rfl hl.1 rfl (lv_room (Nat.le_of_ble_eq_true rfl)) dX11_ledger_12 ⟨Nat.le_of_ble_eq_true rfl, Nat.le_of_ble_eq_true rfl⟩) (fun r30 u H locs hw hP hD hS => ?_)
    obtain ⟨x31, rfl⟩ : ∃ z, z = u := ⟨_, rfl⟩
    have hP : va_P D vwCl [(aw, .inl (cI, 2179, .inl fw)), (h, oX11 x31 aw ai ab ac hi re aP ta po en be de fa a5 sp av an ak ne aW aC ag aT aN aF)] H := hP
    have hD : va_D A [(aw, .inl (cI, 2179, .inl fw)), (h, oX11 x31 aw ai ab ac hi re aP ta po en be de fa a5 sp av an ak ne aW aC ag aT aN aF)] := hD
    have k32 := hw
    refine lv_if_eq (tgt := 20) hx hb dX11_ledger_15 (by decide) (fun c33 => absurd c33 (rg_neq k32 (rg_lit (n := 0) (by decide)) (by decide))) (fun _ => ?_)
    refine lv_iconst (v := 0) hx hb dX11_ledger_18 (by decide) ?_
    have hP9 := hP.sub (ws' := [(h, oX11 x31 aw ai ab ac hi re aP ta po en be de fa a5 sp av an ak ne aW aC ag aT aN aF), (aw, .inl (cI, 2179, .inl fw))]) [1, 0] rfl
    have hD9 := hD.sub (ws' := [(h, oX11 x31 aw ai ab ac hi re aP ta po en be de fa a5 sp av an ak ne aW aC ag aT aN aF), (aw, .inl (cI, 2179, .inl fw))]) [1, 0] (by decide) rfl
    exact W.iret (v := 0) hx hb hr (fun t ht hW => ⟨⟨0, (x31), rfl, trivial, by rw [ht]; exact hP9, va_K.moved hW.alike hK, hD9⟩, hS.F ht⟩) hS.2.2 dX11_ledger_19

def kwX11_wash : List Cond := .code yX11_wash cX11_wash 3 none :: kG
theorem hdX11_wash : yX11_wash.cls ≠ "java/lang/invoke/MethodHandle" ∧ yX11_wash.cls ≠ "java/lang/invoke/VarHandle" ∧ (parseMethodDescriptor yX11_wash.desc).map (fun d => d.parameters.length) = some 0 := by decide +kernel
theorem gX11_wash_X11_men : GoodIn kG (wsV RX11 71 RX11 yX11_men kwX11_men) := gK w19_17 (gK w19_18 (gK w19_19 (gK w0_5 (gK w19_20 gGG))))
theorem gX11_wash_X11_of : GoodIn kG (wsV RX11 156 RX11 yX11_of kwX11_of) := gK w21_9 (gK w21_10 (gK w21_11 (gK w0_5 (gK w21_12 gGG))))
theorem gX11_wash_X11_ofMan : GoodIn kG (wsV RX11 153 RX11 yX11_ofMan kwX11_ofMan) := gK w21_5 (gK w21_6 (gK w21_7 (gK w0_5 (gK w21_8 gGG))))
theorem gX11_wash_X11_sets : GoodIn kG (wsV RX11 150 RX11 yX11_sets kwX11_sets) := gK w20_21 (gK w20_22 (gK w20_23 (gK w0_5 (gK w21_0 gGG))))
theorem gX11_wash_X11_setsMan : GoodIn kG (wsV RX11 141 RX11 yX11_setsMan kwX11_setsMan) := gK w20_9 (gK w20_10 (gK w20_11 (gK w0_5 (gK w20_12 gGG))))
theorem gX11_wash_X11_shirts : GoodIn kG (wsV RX11 79 RX11 yX11_shirts kwX11_shirts) := gK w20_17 (gK w20_18 (gK w20_19 (gK w0_5 (gK w20_20 gGG))))
theorem dX11_wash_0 : decode cX11_wash 0 = .ok (.sipush 359, 3) := by decide +kernel
theorem dX11_wash_3 : decode cX11_wash 3 = .ok (.istore_n 1, 1) := by decide +kernel
theorem dX11_wash_4 : decode cX11_wash 4 = .ok (.iload_n 1, 1) := by decide +kernel
theorem dX11_wash_5 : decode cX11_wash 5 = .ok (.bipush 12, 2) := by decide +kernel
theorem dX11_wash_7 : decode cX11_wash 7 = .ok (.if_icmp .lt 32, 3) := by decide +kernel
theorem dX11_wash_10 : decode cX11_wash 10 = .ok (.aload_n 0, 1) := by decide +kernel
theorem dX11_wash_11 : decode cX11_wash 11 = .ok (.getfield 13, 3) := by decide +kernel
theorem dX11_wash_14 : decode cX11_wash 14 = .ok (.sipush 145, 3) := by decide +kernel
theorem dX11_wash_17 : decode cX11_wash 17 = .ok (.iload_n 1, 1) := by decide +kernel
theorem dX11_wash_18 : decode cX11_wash 18 = .ok (.iadd, 1) := by decide +kernel
theorem dX11_wash_19 : decode cX11_wash 19 = .ok (.aload_n 0, 1) := by decide +kernel
theorem dX11_wash_20 : decode cX11_wash 20 = .ok (.getfield 13, 3) := by decide +kernel
theorem dX11_wash_23 : decode cX11_wash 23 = .ok (.sipush 145, 3) := by decide +kernel
theorem dX11_wash_26 : decode cX11_wash 26 = .ok (.iload_n 1, 1) := by decide +kernel
theorem dX11_wash_27 : decode cX11_wash 27 = .ok (.iadd, 1) := by decide +kernel
theorem dX11_wash_28 : decode cX11_wash 28 = .ok (.bipush 12, 2) := by decide +kernel
theorem dX11_wash_30 : decode cX11_wash 30 = .ok (.isub, 1) := by decide +kernel
theorem dX11_wash_31 : decode cX11_wash 31 = .ok (.iaload, 1) := by decide +kernel
theorem dX11_wash_32 : decode cX11_wash 32 = .ok (.iastore, 1) := by decide +kernel
theorem dX11_wash_33 : decode cX11_wash 33 = .ok (.iinc 1 (-1), 3) := by decide +kernel
theorem dX11_wash_36 : decode cX11_wash 36 = .ok (.goto (-32), 3) := by decide +kernel
theorem dX11_wash_39 : decode cX11_wash 39 = .ok (.iconst 0, 1) := by decide +kernel
theorem dX11_wash_40 : decode cX11_wash 40 = .ok (.istore_n 1, 1) := by decide +kernel
theorem dX11_wash_41 : decode cX11_wash 41 = .ok (.iload_n 1, 1) := by decide +kernel
theorem dX11_wash_42 : decode cX11_wash 42 = .ok (.bipush 12, 2) := by decide +kernel
theorem dX11_wash_44 : decode cX11_wash 44 = .ok (.if_icmp .ge 37, 3) := by decide +kernel
theorem dX11_wash_47 : decode cX11_wash 47 = .ok (.aload_n 0, 1) := by decide +kernel
theorem dX11_wash_48 : decode cX11_wash 48 = .ok (.getfield 13, 3) := by decide +kernel
theorem dX11_wash_51 : decode cX11_wash 51 = .ok (.sipush 145, 3) := by decide +kernel
theorem dX11_wash_54 : decode cX11_wash 54 = .ok (.iload_n 1, 1) := by decide +kernel
theorem dX11_wash_55 : decode cX11_wash 55 = .ok (.iadd, 1) := by decide +kernel
theorem dX11_wash_56 : decode cX11_wash 56 = .ok (.iload_n 1, 1) := by decide +kernel
theorem dX11_wash_57 : decode cX11_wash 57 = .ok (.aload_n 0, 1) := by decide +kernel
theorem dX11_wash_58 : decode cX11_wash 58 = .ok (.invokevirtual 79, 3) := by decide +kernel
theorem dX11_wash_61 : decode cX11_wash 61 = .ok (.if_icmp .ge 12, 3) := by decide +kernel
theorem dX11_wash_64 : decode cX11_wash 64 = .ok (.aload_n 0, 1) := by decide +kernel
theorem dX11_wash_65 : decode cX11_wash 65 = .ok (.iload_n 1, 1) := by decide +kernel
theorem dX11_wash_66 : decode cX11_wash 66 = .ok (.iconst 5, 1) := by decide +kernel
theorem dX11_wash_67 : decode cX11_wash 67 = .ok (.invokevirtual 156, 3) := by decide +kernel
theorem dX11_wash_70 : decode cX11_wash 70 = .ok (.goto 4, 3) := by decide +kernel
theorem dX11_wash_73 : decode cX11_wash 73 = .ok (.iconst (-1), 1) := by decide +kernel
theorem dX11_wash_74 : decode cX11_wash 74 = .ok (.iastore, 1) := by decide +kernel
theorem dX11_wash_75 : decode cX11_wash 75 = .ok (.iinc 1 1, 3) := by decide +kernel
theorem dX11_wash_78 : decode cX11_wash 78 = .ok (.goto (-37), 3) := by decide +kernel
theorem dX11_wash_81 : decode cX11_wash 81 = .ok (.iconst 0, 1) := by decide +kernel
theorem dX11_wash_82 : decode cX11_wash 82 = .ok (.istore_n 1, 1) := by decide +kernel
theorem dX11_wash_83 : decode cX11_wash 83 = .ok (.iload_n 1, 1) := by decide +kernel
theorem dX11_wash_84 : decode cX11_wash 84 = .ok (.aload_n 0, 1) := by decide +kernel
theorem dX11_wash_85 : decode cX11_wash 85 = .ok (.invokevirtual 79, 3) := by decide +kernel
theorem dX11_wash_88 : decode cX11_wash 88 = .ok (.if_icmp .ge 100, 3) := by decide +kernel
theorem dX11_wash_91 : decode cX11_wash 91 = .ok (.aload_n 0, 1) := by decide +kernel
theorem dX11_wash_92 : decode cX11_wash 92 = .ok (.iload_n 1, 1) := by decide +kernel
theorem dX11_wash_93 : decode cX11_wash 93 = .ok (.iconst 5, 1) := by decide +kernel
theorem dX11_wash_94 : decode cX11_wash 94 = .ok (.invokevirtual 156, 3) := by decide +kernel
theorem dX11_wash_97 : decode cX11_wash 97 = .ok (.istore_n 2, 1) := by decide +kernel
theorem dX11_wash_98 : decode cX11_wash 98 = .ok (.aload_n 0, 1) := by decide +kernel
theorem dX11_wash_99 : decode cX11_wash 99 = .ok (.iload_n 1, 1) := by decide +kernel
theorem dX11_wash_100 : decode cX11_wash 100 = .ok (.bipush 6, 2) := by decide +kernel
theorem dX11_wash_102 : decode cX11_wash 102 = .ok (.iload_n 2, 1) := by decide +kernel
theorem dX11_wash_103 : decode cX11_wash 103 = .ok (.invokevirtual 150, 3) := by decide +kernel
theorem dX11_wash_106 : decode cX11_wash 106 = .ok (.aload_n 0, 1) := by decide +kernel
theorem dX11_wash_107 : decode cX11_wash 107 = .ok (.iload_n 1, 1) := by decide +kernel
theorem dX11_wash_108 : decode cX11_wash 108 = .ok (.iconst 5, 1) := by decide +kernel
theorem dX11_wash_109 : decode cX11_wash 109 = .ok (.iconst (-1), 1) := by decide +kernel
theorem dX11_wash_110 : decode cX11_wash 110 = .ok (.invokevirtual 150, 3) := by decide +kernel
theorem dX11_wash_113 : decode cX11_wash 113 = .ok (.iload_n 2, 1) := by decide +kernel
theorem dX11_wash_114 : decode cX11_wash 114 = .ok (.ifCond .ge 6, 3) := by decide +kernel
theorem dX11_wash_117 : decode cX11_wash 117 = .ok (.goto 65, 3) := by decide +kernel
theorem dX11_wash_120 : decode cX11_wash 120 = .ok (.aload_n 0, 1) := by decide +kernel
theorem dX11_wash_121 : decode cX11_wash 121 = .ok (.iload_n 1, 1) := by decide +kernel
theorem dX11_wash_122 : decode cX11_wash 122 = .ok (.iconst 1, 1) := by decide +kernel
theorem dX11_wash_123 : decode cX11_wash 123 = .ok (.sipush 999, 3) := by decide +kernel
theorem dX11_wash_126 : decode cX11_wash 126 = .ok (.aload_n 0, 1) := by decide +kernel
theorem dX11_wash_127 : decode cX11_wash 127 = .ok (.iload_n 1, 1) := by decide +kernel
theorem dX11_wash_128 : decode cX11_wash 128 = .ok (.iconst 1, 1) := by decide +kernel
theorem dX11_wash_129 : decode cX11_wash 129 = .ok (.invokevirtual 156, 3) := by decide +kernel
theorem dX11_wash_132 : decode cX11_wash 132 = .ok (.aload_n 0, 1) := by decide +kernel
theorem dX11_wash_133 : decode cX11_wash 133 = .ok (.iload_n 2, 1) := by decide +kernel
theorem dX11_wash_134 : decode cX11_wash 134 = .ok (.iconst 2, 1) := by decide +kernel
theorem dX11_wash_135 : decode cX11_wash 135 = .ok (.invokevirtual 153, 3) := by decide +kernel
theorem dX11_wash_138 : decode cX11_wash 138 = .ok (.iadd, 1) := by decide +kernel
theorem dX11_wash_139 : decode cX11_wash 139 = .ok (.invokestatic 292, 3) := by decide +kernel
theorem dX11_wash_142 : decode cX11_wash 142 = .ok (.invokevirtual 150, 3) := by decide +kernel
theorem dX11_wash_145 : decode cX11_wash 145 = .ok (.aload_n 0, 1) := by decide +kernel
theorem dX11_wash_146 : decode cX11_wash 146 = .ok (.iload_n 1, 1) := by decide +kernel
theorem dX11_wash_147 : decode cX11_wash 147 = .ok (.iconst 3, 1) := by decide +kernel
theorem dX11_wash_148 : decode cX11_wash 148 = .ok (.iconst 0, 1) := by decide +kernel
theorem dX11_wash_149 : decode cX11_wash 149 = .ok (.aload_n 0, 1) := by decide +kernel
theorem dX11_wash_150 : decode cX11_wash 150 = .ok (.iload_n 1, 1) := by decide +kernel
theorem dX11_wash_151 : decode cX11_wash 151 = .ok (.iconst 3, 1) := by decide +kernel
theorem dX11_wash_152 : decode cX11_wash 152 = .ok (.invokevirtual 156, 3) := by decide +kernel
theorem dX11_wash_155 : decode cX11_wash 155 = .ok (.iconst 1, 1) := by decide +kernel
theorem dX11_wash_156 : decode cX11_wash 156 = .ok (.isub, 1) := by decide +kernel
theorem dX11_wash_157 : decode cX11_wash 157 = .ok (.invokestatic 295, 3) := by decide +kernel
theorem dX11_wash_160 : decode cX11_wash 160 = .ok (.invokevirtual 150, 3) := by decide +kernel
theorem dX11_wash_163 : decode cX11_wash 163 = .ok (.aload_n 0, 1) := by decide +kernel
theorem dX11_wash_164 : decode cX11_wash 164 = .ok (.iload_n 1, 1) := by decide +kernel
theorem dX11_wash_165 : decode cX11_wash 165 = .ok (.iconst 2, 1) := by decide +kernel
theorem dX11_wash_166 : decode cX11_wash 166 = .ok (.bipush 99, 2) := by decide +kernel
theorem dX11_wash_168 : decode cX11_wash 168 = .ok (.aload_n 0, 1) := by decide +kernel
theorem dX11_wash_169 : decode cX11_wash 169 = .ok (.iload_n 1, 1) := by decide +kernel
theorem dX11_wash_170 : decode cX11_wash 170 = .ok (.iconst 2, 1) := by decide +kernel
theorem dX11_wash_171 : decode cX11_wash 171 = .ok (.invokevirtual 156, 3) := by decide +kernel
theorem dX11_wash_174 : decode cX11_wash 174 = .ok (.iconst 3, 1) := by decide +kernel
theorem dX11_wash_175 : decode cX11_wash 175 = .ok (.iadd, 1) := by decide +kernel
theorem dX11_wash_176 : decode cX11_wash 176 = .ok (.invokestatic 292, 3) := by decide +kernel
theorem dX11_wash_179 : decode cX11_wash 179 = .ok (.invokevirtual 150, 3) := by decide +kernel
theorem dX11_wash_182 : decode cX11_wash 182 = .ok (.iinc 1 1, 3) := by decide +kernel
theorem dX11_wash_185 : decode cX11_wash 185 = .ok (.goto (-102), 3) := by decide +kernel
theorem dX11_wash_188 : decode cX11_wash 188 = .ok (.iconst 0, 1) := by decide +kernel
theorem dX11_wash_189 : decode cX11_wash 189 = .ok (.istore_n 1, 1) := by decide +kernel
theorem dX11_wash_190 : decode cX11_wash 190 = .ok (.iload_n 1, 1) := by decide +kernel
theorem dX11_wash_191 : decode cX11_wash 191 = .ok (.aload_n 0, 1) := by decide +kernel
theorem dX11_wash_192 : decode cX11_wash 192 = .ok (.invokevirtual 71, 3) := by decide +kernel
theorem dX11_wash_195 : decode cX11_wash 195 = .ok (.if_icmp .ge 16, 3) := by decide +kernel
theorem dX11_wash_198 : decode cX11_wash 198 = .ok (.aload_n 0, 1) := by decide +kernel
theorem dX11_wash_199 : decode cX11_wash 199 = .ok (.iload_n 1, 1) := by decide +kernel
theorem dX11_wash_200 : decode cX11_wash 200 = .ok (.iconst 4, 1) := by decide +kernel
theorem dX11_wash_201 : decode cX11_wash 201 = .ok (.iconst (-1), 1) := by decide +kernel
theorem dX11_wash_202 : decode cX11_wash 202 = .ok (.invokevirtual 141, 3) := by decide +kernel
theorem dX11_wash_205 : decode cX11_wash 205 = .ok (.iinc 1 1, 3) := by decide +kernel
theorem dX11_wash_208 : decode cX11_wash 208 = .ok (.goto (-18), 3) := by decide +kernel
theorem dX11_wash_211 : decode cX11_wash 211 = .ok (.aload_n 0, 1) := by decide +kernel
theorem dX11_wash_212 : decode cX11_wash 212 = .ok (.getfield 13, 3) := by decide +kernel
theorem dX11_wash_215 : decode cX11_wash 215 = .ok (.bipush 10, 2) := by decide +kernel
theorem dX11_wash_217 : decode cX11_wash 217 = .ok (.bipush 30, 2) := by decide +kernel
theorem dX11_wash_219 : decode cX11_wash 219 = .ok (.aload_n 0, 1) := by decide +kernel
theorem dX11_wash_220 : decode cX11_wash 220 = .ok (.getfield 13, 3) := by decide +kernel
theorem dX11_wash_223 : decode cX11_wash 223 = .ok (.bipush 10, 2) := by decide +kernel
theorem dX11_wash_225 : decode cX11_wash 225 = .ok (.iaload, 1) := by decide +kernel
theorem dX11_wash_226 : decode cX11_wash 226 = .ok (.iconst 1, 1) := by decide +kernel
theorem dX11_wash_227 : decode cX11_wash 227 = .ok (.iadd, 1) := by decide +kernel
theorem dX11_wash_228 : decode cX11_wash 228 = .ok (.invokestatic 292, 3) := by decide +kernel
theorem dX11_wash_231 : decode cX11_wash 231 = .ok (.iastore, 1) := by decide +kernel
theorem dX11_wash_232 : decode cX11_wash 232 = .ok (.aload_n 0, 1) := by decide +kernel
theorem dX11_wash_233 : decode cX11_wash 233 = .ok (.getfield 13, 3) := by decide +kernel
theorem dX11_wash_236 : decode cX11_wash 236 = .ok (.iconst 5, 1) := by decide +kernel
theorem dX11_wash_237 : decode cX11_wash 237 = .ok (.dup2, 1) := by decide +kernel
theorem dX11_wash_238 : decode cX11_wash 238 = .ok (.iaload, 1) := by decide +kernel
theorem dX11_wash_239 : decode cX11_wash 239 = .ok (.iconst 1, 1) := by decide +kernel
theorem dX11_wash_240 : decode cX11_wash 240 = .ok (.iadd, 1) := by decide +kernel
theorem dX11_wash_241 : decode cX11_wash 241 = .ok (.iastore, 1) := by decide +kernel
theorem dX11_wash_242 : decode cX11_wash 242 = .ok (.return_, 1) := by decide +kernel
set_option maxHeartbeats 4000000 in
set_option maxRecDepth 100000 in
/-- reference: wash -/
theorem r_wash (l : Launch) (D : va_G) (cI cJ cB cC : ClassId) (h : Nat) (th : Int32) (aw : Nat) (ai : Nat) (ab : Nat) (ac : Nat) (hi : Int32) (re : Int32) (aP : Nat) (ta : Int32) (po : Int32) (en : Int32) (be : Int32) (de : Int32) (fa : Int32) (a5 : Nat) (sp : Int32) (av : Nat) (an : Nat) (ak : Nat) (ne : Int32) (aW : Nat) (aC : Nat) (ag : Nat) (aT : Nat) (aN : Nat) (aF : Nat) (fw : Nat → Int32) (sz : Nat) (H_fw_W : wW fw) (H_fw_B : wB fw) (H_fw_L : wL fw) : Met l yX11_wash kwX11_wash ({ frames := 1, cells := 0, slots := 0, locals := 23 } : Room) (kPre D (kT cI cJ cB cC) sz [(h, oX11 th aw ai ab ac hi re aP ta po en be de fa a5 sp av an ak ne aW aC ag aT aN aF), (aw, .inl (cI, 2179, .inl fw))] [.ref h]) (va_Qv (fun (f0_ : (Nat → Int32)) => wB f0_ ∧ wL f0_ ∧ wW f0_) (fun (f0_ : (Nat → Int32)) (t : State) => kB D (kT cI cJ cB cC) (va_A [(h, oX11 th aw ai ab ac hi re aP ta po en be de fa a5 sp av an ak ne aW aC ag aT aN aF), (aw, .inl (cI, 2179, .inl fw))] sz) [(h, oX11 th aw ai ab ac hi re aP ta po en be de fa a5 sp av an ak ne aW aC ag aT aN aF), (aw, .inl (cI, 2179, .inl f0_))] t) (va_A [(h, oX11 th aw ai ab ac hi re aP ta po en be de fa a5 sp av an ak ne aW aC ag aT aN aF), (aw, .inl (cI, 2179, .inl fw))] sz)) 0 0 (va_A [(h, oX11 th aw ai ab ac hi re aP ta po en be de fa a5 sp av an ak ne aW aC ag aT aN aF), (aw, .inl (cI, 2179, .inl fw))] sz) := by
  refine Met.ofW (cc := cX11_wash) (maxL := 3) (ret := none) (by decide) rfl ?_
  intro p e s m args below meth c s₁ B hml hv
  obtain ⟨rfl, hsz, hN, hE, hP, hK, hD0⟩ := hv
  have hx := B.exec
  have hb := B.bytes
  have hr := B.returns
  have hts := fun (w : Cond) (h : w ∈ kG) => atoms_spec (ws := kwX11_wash) B.pre w (List.mem_cons_of_mem _ h)
  have hown : s.vm.findClass RX11 = some m.cls := findClass_of_methodNamed B.named
  subst hsz
  have hD := hD0.self (sz := s.heap.size)
  generalize hAe : va_A [(h, oX11 th aw ai ab ac hi re aP ta po en be de fa a5 sp av an ak ne aW aC ag aT aN aF), (aw, .inl (cI, 2179, .inl fw))] s.heap.size = A at hD hE ⊢
  have hA : ∀ q : Nat, s.heap.size ≤ q → A q := fun q h => by rw [← hAe]; exact Or.inr h
  have hl := lv_entry ([.ref h]) (n := 3) (Nat.le_of_ble_eq_true rfl)
  rw [lg_entry_eq]
  generalize (lg_sl ([.ref h]) ++ List.replicate (3 - (lg_sl ([.ref h])).length) Slot.unset).toArray = ls at hl ⊢
  have hl : lv_has ls 3 [(0, .ref h)] := hl
  obtain ⟨H, hH0⟩ : ∃ H, H = s.heap := ⟨_, rfl⟩
  have hS : va_S A s.heap H [] := by rw [hH0]; exact va_S.rf
  have hP : va_P D vwCl [(h, oX11 th aw ai ab ac hi re aP ta po en be de fa a5 sp av an ak ne aW aC ag aT aN aF), (aw, .inl (cI, 2179, .inl fw))] H := by rw [hH0]; exact hP
  refine kHeap hH0 ?_
  clear hH0
  refine lv_sipush (v := 359) hx hb dX11_wash_0 (by decide) ?_
  refine lv_istore_n (lv' := [(1, .int 359), (0, .ref h)]) hx hb dX11_wash_3 rfl hl (by decide) rfl (fun ls hl => ?_)
  refine k_loop (hd := 4) (fun (u : Int32 × (Nat → Int32)) => match u with | (y273, g274) => ((y273).toInt - 11).toNat) (fun (u : Int32 × (Nat → Int32)) (H : Heap) (locs : List Loc) (ls : Array Slot) => match u with | (y273, g274) => Rg y273 11 359 ∧ wB g274 ∧ wL g274 ∧ wW g274 ∧ va_P D vwCl [(h, oX11 th aw ai ab ac hi re aP ta po en be de fa a5 sp av an ak ne aW aC ag aT aN aF), (aw, .inl (cI, 2179, .inl g274))] H ∧ va_D A [(h, oX11 th aw ai ab ac hi re aP ta po en be de fa a5 sp av an ak ne aW aC ag aT aN aF), (aw, .inl (cI, 2179, .inl g274))] ∧ va_S A s.heap H locs ∧ lv_has ls 3 [(1, .int y273), (0, .ref h)]) ((359 : Int32), fw) ⟨(rg_w (rg_lit (n := 359) (by decide)) (by decide)), H_fw_B, H_fw_L, H_fw_W, hP.sub (ws' := [(h, oX11 th aw ai ab ac hi re aP ta po en be de fa a5 sp av an ak ne aW aC ag aT aN aF), (aw, .inl (cI, 2179, .inl fw))]) [0, 1] rfl, hD.sub (ws' := [(h, oX11 th aw ai ab ac hi re aP ta po en be de fa a5 sp av an ak ne aW aC ag aT aN aF), (aw, .inl (cI, 2179, .inl fw))]) [0, 1] (by decide) rfl, hS, lv_sub (l' := [(1, .int 359), (0, .ref h)]) hl [0, 1] rfl⟩ (fun u H locs ls hI ih275 => ?_)
  clear hP hD hS hl
  obtain ⟨y273, g274⟩ := u
  obtain ⟨hy273, hg274_0, hg274_1, hg274_2, hP, hD, hS, hl⟩ := hI
  have hP : va_P D vwCl [(h, oX11 th aw ai ab ac hi re aP ta po en be de fa a5 sp av an ak ne aW aC ag aT aN aF), (aw, .inl (cI, 2179, .inl g274))] H := hP
  have hD : va_D A [(h, oX11 th aw ai ab ac hi re aP ta po en be de fa a5 sp av an ak ne aW aC ag aT aN aF), (aw, .inl (cI, 2179, .inl g274))] := hD
  have hl : lv_has ls 3 [(1, .int y273), (0, .ref h)] := hl
  refine lv_iload_n hx hb dX11_wash_4 rfl (lv_at hl 0 rfl) ?_
  refine lv_bipush (v := 12) hx hb dX11_wash_5 (by decide) ?_
  refine lv_icmp_lt (tgt := 39) hx hb dX11_wash_7 (by decide) (fun c276 => ?_) (fun c276 => ?_)
  · skip
    have k277 : Rg y273 11 11 := rg_l1 (ltI c276) hy273 (rg_lit (n := 12) (by decide)) (by decide)
    refine lv_iconst (v := 0) hx hb dX11_wash_39 (by decide) ?_
    refine lv_istore_n (lv' := [(1, .int 0), (0, .ref h)]) hx hb dX11_wash_40 rfl hl (by decide) rfl (fun ls hl => ?_)
    refine k_loop (hd := 41) (fun (u : Int32 × (Nat → Int32)) => match u with | (y649, g650) => (12 - (y649).toInt).toNat) (fun (u : Int32 × (Nat → Int32)) (H : Heap) (locs : List Loc) (ls : Array Slot) => match u with | (y649, g650) => Rg y649 0 12 ∧ wB g650 ∧ wL g650 ∧ wW g650 ∧ va_P D vwCl [(h, oX11 th aw ai ab ac hi re aP ta po en be de fa a5 sp av an ak ne aW aC ag aT aN aF), (aw, .inl (cI, 2179, .inl g650))] H ∧ va_D A [(h, oX11 th aw ai ab ac hi re aP ta po en be de fa a5 sp av an ak ne aW aC ag aT aN aF), (aw, .inl (cI, 2179, .inl g650))] ∧ va_S A s.heap H locs ∧ lv_has ls 3 [(1, .int y649), (0, .ref h)]) ((0 : Int32), g274) ⟨(rg_w (rg_lit (n := 0) (by decide)) (by decide)), hg274_0, hg274_1, hg274_2, hP.sub (ws' := [(h, oX11 th aw ai ab ac hi re aP ta po en be de fa a5 sp av an ak ne aW aC ag aT aN aF), (aw, .inl (cI, 2179, .inl g274))]) [0, 1] rfl, hD.sub (ws' := [(h, oX11 th aw ai ab ac hi re aP ta po en be de fa a5 sp av an ak ne aW aC ag aT aN aF), (aw, .inl (cI, 2179, .inl g274))]) [0, 1] (by decide) rfl, hS, lv_sub (l' := [(1, .int 0), (0, .ref h)]) hl [0, 1] rfl⟩ (fun u H locs ls hI ih651 => ?_)
    clear hP hD hS hl
    obtain ⟨y649, g650⟩ := u
    obtain ⟨hy649, hg650_0, hg650_1, hg650_2, hP, hD, hS, hl⟩ := hI
    have hP : va_P D vwCl [(h, oX11 th aw ai ab ac hi re aP ta po en be de fa a5 sp av an ak ne aW aC ag aT aN aF), (aw, .inl (cI, 2179, .inl g650))] H := hP
    have hD : va_D A [(h, oX11 th aw ai ab ac hi re aP ta po en be de fa a5 sp av an ak ne aW aC ag aT aN aF), (aw, .inl (cI, 2179, .inl g650))] := hD
    have hl : lv_has ls 3 [(1, .int y649), (0, .ref h)] := hl
    refine lv_iload_n hx hb dX11_wash_41 rfl (lv_at hl 0 rfl) ?_
    refine lv_bipush (v := 12) hx hb dX11_wash_42 (by decide) ?_
    refine lv_icmp_ge (tgt := 81) hx hb dX11_wash_44 (by decide) (fun c652 => ?_) (fun c652 => ?_)
    · skip
      have k653 : Rg y649 12 12 := rg_e2 (leI c652) (rg_lit (n := 12) (by decide)) hy649 (by decide)
      refine lv_iconst (v := 0) hx hb dX11_wash_81 (by decide) ?_
      refine lv_istore_n (lv' := [(1, .int 0), (0, .ref h)]) hx hb dX11_wash_82 rfl hl (by decide) rfl (fun ls hl => ?_)
      refine k_loop (hd := 83) (fun (u : Int32 × (Nat → Int32)) => match u with | (y1530, g1531) => (12 - (y1530).toInt).toNat) (fun (u : Int32 × (Nat → Int32)) (H : Heap) (locs : List Loc) (ls : Array Slot) => match u with | (y1530, g1531) => Rg y1530 0 12 ∧ wB g1531 ∧ wL g1531 ∧ wW g1531 ∧ va_P D vwCl [(h, oX11 th aw ai ab ac hi re aP ta po en be de fa a5 sp av an ak ne aW aC ag aT aN aF), (aw, .inl (cI, 2179, .inl g1531))] H ∧ va_D A [(h, oX11 th aw ai ab ac hi re aP ta po en be de fa a5 sp av an ak ne aW aC ag aT aN aF), (aw, .inl (cI, 2179, .inl g1531))] ∧ va_S A s.heap H locs ∧ lv_has ls 3 [(1, .int y1530), (0, .ref h)]) ((0 : Int32), g650) ⟨(rg_w (rg_lit (n := 0) (by decide)) (by decide)), hg650_0, hg650_1, hg650_2, hP.sub (ws' := [(h, oX11 th aw ai ab ac hi re aP ta po en be de fa a5 sp av an ak ne aW aC ag aT aN aF), (aw, .inl (cI, 2179, .inl g650))]) [0, 1] rfl, hD.sub (ws' := [(h, oX11 th aw ai ab ac hi re aP ta po en be de fa a5 sp av an ak ne aW aC ag aT aN aF), (aw, .inl (cI, 2179, .inl g650))]) [0, 1] (by decide) rfl, hS, lv_sub (l' := [(1, .int 0), (0, .ref h)]) hl [0, 1] rfl⟩ (fun u H locs ls hI ih1532 => ?_)
      clear hP hD hS hl
      obtain ⟨y1530, g1531⟩ := u
      obtain ⟨hy1530, hg1531_0, hg1531_1, hg1531_2, hP, hD, hS, hl⟩ := hI
      have hP : va_P D vwCl [(h, oX11 th aw ai ab ac hi re aP ta po en be de fa a5 sp av an ak ne aW aC ag aT aN aF), (aw, .inl (cI, 2179, .inl g1531))] H := hP
      have hD : va_D A [(h, oX11 th aw ai ab ac hi re aP ta po en be de fa a5 sp av an ak ne aW aC ag aT aN aF), (aw, .inl (cI, 2179, .inl g1531))] := hD
      have hl : lv_has ls 3 [(1, .int y1530), (0, .ref h)] := hl
      refine lv_iload_n hx hb dX11_wash_83 rfl (lv_at hl 0 rfl) ?_
      refine lv_aload_n hx hb dX11_wash_84 rfl (lv_at hl 1 rfl) ?_
      refine kpurei (wc := [(h, oX11 th aw ai ab ac hi re aP ta po en be de fa a5 sp av an ak ne aW aC ag aT aN aF), (aw, .inl (cI, 2179, .inl g1531))]) hP hD hS hA [0, 1] rfl (by decide) (fun hPc hDc hFc => va_runV (As := []) (rest := [.int y1530]) ⟨hx, hb, hml, hown, hts⟩ (r_shirts l D cI cJ cB cC h th aw ai ab ac hi re aP ta po en be de fa a5 sp av an ak ne aW aC ag aT aN aF g1531 H.size hg1531_2) (cwV 0 hts gX11_wash_X11_shirts rfl rfl rfl ⟨rfl, hdX11_shirts⟩ ⟨Nat.le_of_ble_eq_true rfl, Nat.le_of_ble_eq_true rfl⟩) ⟨kBlind, va_recv hK hPc (ci := 10) (q0 := 0) rfl rfl, fun U hU hW => ⟨rfl, by rw [hU], hN.warm hW, hE.pass hS hFc hW hU, by rw [hU]; exact hPc, va_K.moved hW.alike hK, hDc⟩⟩ rfl rfl hl.1 rfl (lv_room (Nat.le_of_ble_eq_true rfl)) dX11_wash_85 ⟨Nat.le_of_ble_eq_true rfl, Nat.le_of_ble_eq_true rfl⟩) (fun r1533 u H locs hw hP hS => ?_)
      obtain ⟨k1534, k1535⟩ := hw
      refine lv_icmp_ge (tgt := 188) hx hb dX11_wash_88 (by decide) (fun c1536 => ?_) (fun c1536 => ?_)
      · skip
        refine lv_iconst (v := 0) hx hb dX11_wash_188 (by decide) ?_
        refine lv_istore_n (lv' := [(1, .int 0), (0, .ref h)]) hx hb dX11_wash_189 rfl hl (by decide) rfl (fun ls hl => ?_)
        refine k_loop (hd := 190) (fun (u : Int32 × (Nat → Int32)) => match u with | (y1757, g1758) => (10 - (y1757).toInt).toNat) (fun (u : Int32 × (Nat → Int32)) (H : Heap) (locs : List Loc) (ls : Array Slot) => match u with | (y1757, g1758) => Rg y1757 0 10 ∧ wB g1758 ∧ wL g1758 ∧ wW g1758 ∧ va_P D vwCl [(h, oX11 th aw ai ab ac hi re aP ta po en be de fa a5 sp av an ak ne aW aC ag aT aN aF), (aw, .inl (cI, 2179, .inl g1758))] H ∧ va_D A [(h, oX11 th aw ai ab ac hi re aP ta po en be de fa a5 sp av an ak ne aW aC ag aT aN aF), (aw, .inl (cI, 2179, .inl g1758))] ∧ va_S A s.heap H locs ∧ lv_has ls 3 [(1, .int y1757), (0, .ref h)]) ((0 : Int32), g1531) ⟨(rg_w (rg_lit (n := 0) (by decide)) (by decide)), hg1531_0, hg1531_1, hg1531_2, hP.sub (ws' := [(h, oX11 th aw ai ab ac hi re aP ta po en be de fa a5 sp av an ak ne aW aC ag aT aN aF), (aw, .inl (cI, 2179, .inl g1531))]) [0, 1] rfl, hD.sub (ws' := [(h, oX11 th aw ai ab ac hi re aP ta po en be de fa a5 sp av an ak ne aW aC ag aT aN aF), (aw, .inl (cI, 2179, .inl g1531))]) [0, 1] (by decide) rfl, hS, lv_sub (l' := [(1, .int 0), (0, .ref h)]) hl [0, 1] rfl⟩ (fun u H locs ls hI ih1759 => ?_)
        clear hP hD hS hl
        obtain ⟨y1757, g1758⟩ := u
        obtain ⟨hy1757, hg1758_0, hg1758_1, hg1758_2, hP, hD, hS, hl⟩ := hI
        have hP : va_P D vwCl [(h, oX11 th aw ai ab ac hi re aP ta po en be de fa a5 sp av an ak ne aW aC ag aT aN aF), (aw, .inl (cI, 2179, .inl g1758))] H := hP
        have hD : va_D A [(h, oX11 th aw ai ab ac hi re aP ta po en be de fa a5 sp av an ak ne aW aC ag aT aN aF), (aw, .inl (cI, 2179, .inl g1758))] := hD
        have hl : lv_has ls 3 [(1, .int y1757), (0, .ref h)] := hl
        refine lv_iload_n hx hb dX11_wash_190 rfl (lv_at hl 0 rfl) ?_
        refine lv_aload_n hx hb dX11_wash_191 rfl (lv_at hl 1 rfl) ?_
        refine kpurei (wc := [(h, oX11 th aw ai ab ac hi re aP ta po en be de fa a5 sp av an ak ne aW aC ag aT aN aF), (aw, .inl (cI, 2179, .inl g1758))]) hP hD hS hA [0, 1] rfl (by decide) (fun hPc hDc hFc => va_runV (As := []) (rest := [.int y1757]) ⟨hx, hb, hml, hown, hts⟩ (r_men l D cI cJ cB cC h th aw ai ab ac hi re aP ta po en be de fa a5 sp av an ak ne aW aC ag aT aN aF g1758 H.size hg1758_2) (cwV 0 hts gX11_wash_X11_men rfl rfl rfl ⟨rfl, hdX11_men⟩ ⟨Nat.le_of_ble_eq_true rfl, Nat.le_of_ble_eq_true rfl⟩) ⟨kBlind, va_recv hK hPc (ci := 10) (q0 := 0) rfl rfl, fun U hU hW => ⟨rfl, by rw [hU], hN.warm hW, hE.pass hS hFc hW hU, by rw [hU]; exact hPc, va_K.moved hW.alike hK, hDc⟩⟩ rfl rfl hl.1 rfl (lv_room (Nat.le_of_ble_eq_true rfl)) dX11_wash_192 ⟨Nat.le_of_ble_eq_true rfl, Nat.le_of_ble_eq_true rfl⟩) (fun r1760 u H locs hw hP hS => ?_)
        obtain ⟨k1761, k1762⟩ := hw
        refine lv_icmp_ge (tgt := 211) hx hb dX11_wash_195 (by decide) (fun c1763 => ?_) (fun c1763 => ?_)
        · skip
          refine lv_aload_n hx hb dX11_wash_211 rfl (lv_at hl 1 rfl) ?_
          refine va_get (D := D) (ci := 10) (v := .ref aw) (C := RX11) (T := TX11) (N := 26) hx hb hts iG_X11 hown hK hP 0 rfl rfl 1 (by decide) (hts _ w5_3) (fun _ h9 => h9) rfl dX11_wash_212 ?_
          refine lv_bipush (v := 10) hx hb dX11_wash_215 (by decide) ?_
          refine lv_bipush (v := 30) hx hb dX11_wash_217 (by decide) ?_
          refine lv_aload_n hx hb dX11_wash_219 rfl (lv_at hl 1 rfl) ?_
          refine va_get (D := D) (ci := 10) (v := .ref aw) (C := RX11) (T := TX11) (N := 26) hx hb hts iG_X11 hown hK hP 0 rfl rfl 1 (by decide) (hts _ w5_3) (fun _ h9 => h9) rfl dX11_wash_220 ?_
          refine lv_bipush (v := 10) hx hb dX11_wash_223 (by decide) ?_
          refine va_iald hx hb hK hP 1 0 rfl rfl (rg_in (rg_lit (n := 10) (by decide)) (by decide)) dX11_wash_225 ?_
          refine lv_topi (fun x1764 ex1764 => ?_)
          have k1765 : Rg x1764 0 30 := wW_10 hg1758_2 ex1764
          clear ex1764
          refine lv_iconst (v := 1) hx hb dX11_wash_226 (by decide) ?_
          refine lv_iadd hx hb dX11_wash_227 ?_
          refine lv_topi (fun x1766 ex1766 => ?_)
          have k1767 : Rg x1766 1 31 := rg_add ex1766 k1765 (rg_lit (n := 1) (by decide)) (by decide)
          refine va_mmin hx hb (by rw [hml]; exact hl.1.symm) hown (hts _ w34_13) (hts _ w24_21) (hts _ w8_7) (hts _ w24_22) (Nat.le_of_ble_eq_true rfl) (Nat.le_of_ble_eq_true rfl) (Nat.le_of_ble_eq_true rfl) (Nat.le_of_ble_eq_true rfl) dX11_wash_228 ?_
          refine lv_topi (fun x1768 ex1768 => ?_)
          have k1769 : Rg x1768 1 30 := rg_min ex1768 (rg_lit (n := 30) (by decide)) k1767 (by decide)
          refine va_iast hx hb hK hP hD hS 1 0 rfl rfl (rg_in (rg_lit (n := 10) (by decide)) (by decide)) dX11_wash_231 (fun H locs hP hD hS => ?_)
          have hP : va_P D vwCl [(h, oX11 th aw ai ab ac hi re aP ta po en be de fa a5 sp av an ak ne aW aC ag aT aN aF), (aw, .inl (cI, 2179, .inl (upd g1758 (10 : Int32).toNatClampNeg x1768)))] H := hP
          have hD : va_D A [(h, oX11 th aw ai ab ac hi re aP ta po en be de fa a5 sp av an ak ne aW aC ag aT aN aF), (aw, .inl (cI, 2179, .inl (upd g1758 (10 : Int32).toNatClampNeg x1768)))] := hD
          have k1771 : wB (upd g1758 (10 : Int32).toNatClampNeg x1768) := wB_lo hg1758_0 hg1758_2 (rg_lit (n := 10) (by decide)) (by decide)
          have k1772 : wL (upd g1758 (10 : Int32).toNatClampNeg x1768) := wL_out hg1758_1 (rg_lit (n := 10) (by decide)) (by decide)
          have k1773 : wW (upd g1758 (10 : Int32).toNatClampNeg x1768) := wW_w10 hg1758_2 (rg_w k1769 (by decide))
          generalize hge : (upd g1758 (10 : Int32).toNatClampNeg x1768) = g1770 at hP hD k1771 k1772 k1773
          clear hge
          refine lv_aload_n hx hb dX11_wash_232 rfl (lv_at hl 1 rfl) ?_
          refine va_get (D := D) (ci := 10) (v := .ref aw) (C := RX11) (T := TX11) (N := 26) hx hb hts iG_X11 hown hK hP 0 rfl rfl 1 (by decide) (hts _ w5_3) (fun _ h9 => h9) rfl dX11_wash_233 ?_
          refine lv_iconst (v := 5) hx hb dX11_wash_236 (by decide) ?_
          refine lv_dup2_11 hx hb dX11_wash_237 rfl rfl ?_
          refine va_iald hx hb hK hP 1 0 rfl rfl (rg_in (rg_lit (n := 5) (by decide)) (by decide)) dX11_wash_238 ?_
          refine lv_topi (fun x1774 ex1774 => ?_)
          clear ex1774
          refine lv_iconst (v := 1) hx hb dX11_wash_239 (by decide) ?_
          refine lv_iadd hx hb dX11_wash_240 ?_
          refine lv_topi (fun x1775 ex1775 => ?_)
          refine va_iast hx hb hK hP hD hS 1 0 rfl rfl (rg_in (rg_lit (n := 5) (by decide)) (by decide)) dX11_wash_241 (fun H locs hP hD hS => ?_)
          have hP : va_P D vwCl [(h, oX11 th aw ai ab ac hi re aP ta po en be de fa a5 sp av an ak ne aW aC ag aT aN aF), (aw, .inl (cI, 2179, .inl (upd g1770 (5 : Int32).toNatClampNeg x1775)))] H := hP
          have hD : va_D A [(h, oX11 th aw ai ab ac hi re aP ta po en be de fa a5 sp av an ak ne aW aC ag aT aN aF), (aw, .inl (cI, 2179, .inl (upd g1770 (5 : Int32).toNatClampNeg x1775)))] := hD
          have k1777 : wB (upd g1770 (5 : Int32).toNatClampNeg x1775) := wB_lo k1771 k1773 (rg_lit (n := 5) (by decide)) (by decide)
          have k1778 : wL (upd g1770 (5 : Int32).toNatClampNeg x1775) := wL_out k1772 (rg_lit (n := 5) (by decide)) (by decide)
          have k1779 : wW (upd g1770 (5 : Int32).toNatClampNeg x1775) := wW_lo k1773 (rg_lit (n := 5) (by decide)) (by decide)
          generalize hge : (upd g1770 (5 : Int32).toNatClampNeg x1775) = g1776 at hP hD k1777 k1778 k1779
          clear hge
          have hP9 := hP.sub (ws' := [(h, oX11 th aw ai ab ac hi re aP ta po en be de fa a5 sp av an ak ne aW aC ag aT aN aF), (aw, .inl (cI, 2179, .inl g1776))]) [0, 1] rfl
          have hD9 := hD.sub (ws' := [(h, oX11 th aw ai ab ac hi re aP ta po en be de fa a5 sp av an ak ne aW aC ag aT aN aF), (aw, .inl (cI, 2179, .inl g1776))]) [0, 1] (by decide) rfl
          exact W.vret hx hb hr (fun t ht hW => ⟨⟨(g1776), rfl, ⟨k1777, k1778, k1779⟩, by rw [ht]; exact hP9, va_K.moved hW.alike hK, hD9⟩, hS.F ht⟩) hS.2.2 dX11_wash_242
        · skip
          have k1780 : Rg y1757 0 9 := rg_l1 (nleI c1763) hy1757 k1762 (by decide)
          have k1781 : Rg r1760 1 10 := rg_l2 (nleI c1763) hy1757 k1762 (by decide)
          refine lv_aload_n hx hb dX11_wash_198 rfl (lv_at hl 1 rfl) ?_
          refine lv_iload_n hx hb dX11_wash_199 rfl (lv_at hl 0 rfl) ?_
          refine lv_iconst (v := 4) hx hb dX11_wash_200 (by decide) ?_
          refine lv_iconst (v := (-1)) hx hb dX11_wash_201 (by decide) ?_
          refine kcallv (wc := [(h, oX11 th aw ai ab ac hi re aP ta po en be de fa a5 sp av an ak ne aW aC ag aT aN aF), (aw, .inl (cI, 2179, .inl g1758))]) (wr := []) hP hD hS hA [0, 1] [] rfl rfl (by decide) (by decide) (by decide) (fun hPc hDc hFc => va_runV (As := [.int y1757, .int 4, .int (-1)]) (rest := []) ⟨hx, hb, hml, hown, hts⟩ (r_setsMan4 l D cI cJ cB cC h th aw ai ab ac hi re aP ta po en be de fa a5 sp av an ak ne aW aC ag aT aN aF g1758 y1757 (-1) H.size k1780 (rg_w (rg_lit (n := -1) (by decide)) (by decide)) hg1758_2 hg1758_0 hg1758_1) (cwV 3 hts gX11_wash_X11_setsMan rfl rfl rfl ⟨rfl, hdX11_setsMan⟩ ⟨Nat.le_of_ble_eq_true rfl, Nat.le_of_ble_eq_true rfl⟩) ⟨kBlind, va_recv hK hPc (ci := 10) (q0 := 0) rfl rfl, fun U hU hW => ⟨rfl, by rw [hU], hN.warm hW, hE.pass hS hFc hW hU, by rw [hU]; exact hPc, va_K.moved hW.alike hK, hDc⟩⟩ rfl rfl hl.1 rfl (lv_room (Nat.le_of_ble_eq_true rfl)) dX11_wash_202 ⟨Nat.le_of_ble_eq_true rfl, Nat.le_of_ble_eq_true rfl⟩) (fun u H locs hw hP hD hS => ?_)
          obtain ⟨g1782, rfl⟩ : ∃ z, z = u := ⟨_, rfl⟩
          have hP : va_P D vwCl [(h, oX11 th aw ai ab ac hi re aP ta po en be de fa a5 sp av an ak ne aW aC ag aT aN aF), (aw, .inl (cI, 2179, .inl g1782))] H := hP
          have hD : va_D A [(h, oX11 th aw ai ab ac hi re aP ta po en be de fa a5 sp av an ak ne aW aC ag aT aN aF), (aw, .inl (cI, 2179, .inl g1782))] := hD
          obtain ⟨k1783, k1784, k1785⟩ := hw
          obtain ⟨x1786, ex1786⟩ : ∃ y : Int32, y = y1757 + 1 := ⟨_, rfl⟩
          refine lv_iinc (v := x1786) (lv' := [(1, .int x1786), (0, .ref h)]) hx hb dX11_wash_205 hl (k := 0) rfl (by rw [ex1786]; rfl) (by decide) rfl (fun ls hl => ?_)
          have k1787 : Rg x1786 1 10 := rg_add ex1786 k1780 (rg_lit (n := 1) (by decide)) (by decide)
          refine lv_goto (tgt := 190) hx hb dX11_wash_208 (by decide) ?_
          exact ih1759 (x1786, g1782) _ _ _ (by show (10 - (x1786).toInt).toNat < (10 - (y1757).toInt).toNat; exact mu_up ex1786 k1780 k1787 (by decide)) ⟨(rg_w k1787 (by decide)), k1783, k1784, k1785, hP.sub (ws' := [(h, oX11 th aw ai ab ac hi re aP ta po en be de fa a5 sp av an ak ne aW aC ag aT aN aF), (aw, .inl (cI, 2179, .inl g1782))]) [0, 1] rfl, hD.sub (ws' := [(h, oX11 th aw ai ab ac hi re aP ta po en be de fa a5 sp av an ak ne aW aC ag aT aN aF), (aw, .inl (cI, 2179, .inl g1782))]) [0, 1] (by decide) rfl, hS, lv_sub (l' := [(1, .int x1786), (0, .ref h)]) hl [0, 1] rfl⟩
      · skip
        have k1788 : Rg y1530 0 11 := rg_l1 (nleI c1536) hy1530 k1535 (by decide)
        have k1789 : Rg r1533 1 12 := rg_l2 (nleI c1536) hy1530 k1535 (by decide)
        refine lv_aload_n hx hb dX11_wash_91 rfl (lv_at hl 1 rfl) ?_
        refine lv_iload_n hx hb dX11_wash_92 rfl (lv_at hl 0 rfl) ?_
        refine lv_iconst (v := 5) hx hb dX11_wash_93 (by decide) ?_
        refine kpurei (wc := [(h, oX11 th aw ai ab ac hi re aP ta po en be de fa a5 sp av an ak ne aW aC ag aT aN aF), (aw, .inl (cI, 2179, .inl g1531))]) hP hD hS hA [0, 1] rfl (by decide) (fun hPc hDc hFc => va_runV (As := [.int y1530, .int 5]) (rest := []) ⟨hx, hb, hml, hown, hts⟩ (r_of5 l D cI cJ cB cC h th aw ai ab ac hi re aP ta po en be de fa a5 sp av an ak ne aW aC ag aT aN aF g1531 y1530 H.size k1788 hg1531_2) (cwV 2 hts gX11_wash_X11_of rfl rfl rfl ⟨rfl, hdX11_of⟩ ⟨Nat.le_of_ble_eq_true rfl, Nat.le_of_ble_eq_true rfl⟩) ⟨kBlind, va_recv hK hPc (ci := 10) (q0 := 0) rfl rfl, fun U hU hW => ⟨rfl, by rw [hU], hN.warm hW, hE.pass hS hFc hW hU, by rw [hU]; exact hPc, va_K.moved hW.alike hK, hDc⟩⟩ rfl rfl hl.1 rfl (lv_room (Nat.le_of_ble_eq_true rfl)) dX11_wash_94 ⟨Nat.le_of_ble_eq_true rfl, Nat.le_of_ble_eq_true rfl⟩) (fun r1790 u H locs hw hP hS => ?_)
        obtain ⟨k1791, k1792⟩ := hw
        refine lv_istore_n (lv' := [(2, .int r1790), (1, .int y1530), (0, .ref h)]) hx hb dX11_wash_97 rfl hl (by decide) rfl (fun ls hl => ?_)
        refine lv_aload_n hx hb dX11_wash_98 rfl (lv_at hl 2 rfl) ?_
        refine lv_iload_n hx hb dX11_wash_99 rfl (lv_at hl 1 rfl) ?_
        refine lv_bipush (v := 6) hx hb dX11_wash_100 (by decide) ?_
        refine lv_iload_n hx hb dX11_wash_102 rfl (lv_at hl 0 rfl) ?_
        refine kcallv (wc := [(h, oX11 th aw ai ab ac hi re aP ta po en be de fa a5 sp av an ak ne aW aC ag aT aN aF), (aw, .inl (cI, 2179, .inl g1531))]) (wr := []) hP hD hS hA [0, 1] [] rfl rfl (by decide) (by decide) (by decide) (fun hPc hDc hFc => va_runV (As := [.int y1530, .int 6, .int r1790]) (rest := []) ⟨hx, hb, hml, hown, hts⟩ (r_sets6 l D cI cJ cB cC h th aw ai ab ac hi re aP ta po en be de fa a5 sp av an ak ne aW aC ag aT aN aF g1531 y1530 r1790 H.size k1788 k1792 hg1531_2 hg1531_0 hg1531_1) (cwV 3 hts gX11_wash_X11_sets rfl rfl rfl ⟨rfl, hdX11_sets⟩ ⟨Nat.le_of_ble_eq_true rfl, Nat.le_of_ble_eq_true rfl⟩) ⟨kBlind, va_recv hK hPc (ci := 10) (q0 := 0) rfl rfl, fun U hU hW => ⟨rfl, by rw [hU], hN.warm hW, hE.pass hS hFc hW hU, by rw [hU]; exact hPc, va_K.moved hW.alike hK, hDc⟩⟩ rfl rfl hl.1 rfl (lv_room (Nat.le_of_ble_eq_true rfl)) dX11_wash_103 ⟨Nat.le_of_ble_eq_true rfl, Nat.le_of_ble_eq_true rfl⟩) (fun u H locs hw hP hD hS => ?_)
        obtain ⟨g1793, rfl⟩ : ∃ z, z = u := ⟨_, rfl⟩
        have hP : va_P D vwCl [(h, oX11 th aw ai ab ac hi re aP ta po en be de fa a5 sp av an ak ne aW aC ag aT aN aF), (aw, .inl (cI, 2179, .inl g1793))] H := hP
        have hD : va_D A [(h, oX11 th aw ai ab ac hi re aP ta po en be de fa a5 sp av an ak ne aW aC ag aT aN aF), (aw, .inl (cI, 2179, .inl g1793))] := hD
        obtain ⟨k1794, k1795, k1796⟩ := hw
        refine lv_aload_n hx hb dX11_wash_106 rfl (lv_at hl 2 rfl) ?_
        refine lv_iload_n hx hb dX11_wash_107 rfl (lv_at hl 1 rfl) ?_
        refine lv_iconst (v := 5) hx hb dX11_wash_108 (by decide) ?_
        refine lv_iconst (v := (-1)) hx hb dX11_wash_109 (by decide) ?_
        refine kcallv (wc := [(h, oX11 th aw ai ab ac hi re aP ta po en be de fa a5 sp av an ak ne aW aC ag aT aN aF), (aw, .inl (cI, 2179, .inl g1793))]) (wr := []) hP hD hS hA [0, 1] [] rfl rfl (by decide) (by decide) (by decide) (fun hPc hDc hFc => va_runV (As := [.int y1530, .int 5, .int (-1)]) (rest := []) ⟨hx, hb, hml, hown, hts⟩ (r_sets5 l D cI cJ cB cC h th aw ai ab ac hi re aP ta po en be de fa a5 sp av an ak ne aW aC ag aT aN aF g1793 y1530 (-1) H.size k1788 (rg_w (rg_lit (n := -1) (by decide)) (by decide)) k1796 k1794 k1795) (cwV 3 hts gX11_wash_X11_sets rfl rfl rfl ⟨rfl, hdX11_sets⟩ ⟨Nat.le_of_ble_eq_true rfl, Nat.le_of_ble_eq_true rfl⟩) ⟨kBlind, va_recv hK hPc (ci := 10) (q0 := 0) rfl rfl, fun U hU hW => ⟨rfl, by rw [hU], hN.warm hW, hE.pass hS hFc hW hU, by rw [hU]; exact hPc, va_K.moved hW.alike hK, hDc⟩⟩ rfl rfl hl.1 rfl (lv_room (Nat.le_of_ble_eq_true rfl)) dX11_wash_110 ⟨Nat.le_of_ble_eq_true rfl, Nat.le_of_ble_eq_true rfl⟩) (fun u H locs hw hP hD hS => ?_)
        obtain ⟨g1797, rfl⟩ : ∃ z, z = u := ⟨_, rfl⟩
        have hP : va_P D vwCl [(h, oX11 th aw ai ab ac hi re aP ta po en be de fa a5 sp av an ak ne aW aC ag aT aN aF), (aw, .inl (cI, 2179, .inl g1797))] H := hP
        have hD : va_D A [(h, oX11 th aw ai ab ac hi re aP ta po en be de fa a5 sp av an ak ne aW aC ag aT aN aF), (aw, .inl (cI, 2179, .inl g1797))] := hD
        obtain ⟨k1798, k1799, k1800⟩ := hw
        refine lv_iload_n hx hb dX11_wash_113 rfl (lv_at hl 0 rfl) ?_
        refine k_join (hd := 182) (cells2 := 0) (slots2 := 0) (fun (g1835 : (Nat → Int32)) => []) (fun (g1835 : (Nat → Int32)) (H : Heap) (locs : List Loc) (ls : Array Slot) => wB g1835 ∧ wL g1835 ∧ wW g1835 ∧ va_P D vwCl [(h, oX11 th aw ai ab ac hi re aP ta po en be de fa a5 sp av an ak ne aW aC ag aT aN aF), (aw, .inl (cI, 2179, .inl g1835))] H ∧ va_D A [(h, oX11 th aw ai ab ac hi re aP ta po en be de fa a5 sp av an ak ne aW aC ag aT aN aF), (aw, .inl (cI, 2179, .inl g1835))] ∧ va_S A s.heap H locs ∧ lv_has ls 3 [(2, .int r1790), (1, .int y1530), (0, .ref h)]) (fun u H locs ls hI => ?_) (fun hJ182 => ?_)
        · skip
          clear hP hD hS hl
          obtain ⟨g1835, rfl⟩ : ∃ z, z = u := ⟨_, rfl⟩
          obtain ⟨hg1835_0, hg1835_1, hg1835_2, hP, hD, hS, hl⟩ := hI
          have hP : va_P D vwCl [(h, oX11 th aw ai ab ac hi re aP ta po en be de fa a5 sp av an ak ne aW aC ag aT aN aF), (aw, .inl (cI, 2179, .inl g1835))] H := hP
          have hD : va_D A [(h, oX11 th aw ai ab ac hi re aP ta po en be de fa a5 sp av an ak ne aW aC ag aT aN aF), (aw, .inl (cI, 2179, .inl g1835))] := hD
          have hl : lv_has ls 3 [(2, .int r1790), (1, .int y1530), (0, .ref h)] := hl
          obtain ⟨x1836, ex1836⟩ : ∃ y : Int32, y = y1530 + 1 := ⟨_, rfl⟩
          refine lv_iinc (v := x1836) (lv' := [(1, .int x1836), (2, .int r1790), (0, .ref h)]) hx hb dX11_wash_182 hl (k := 1) rfl (by rw [ex1836]; rfl) (by decide) rfl (fun ls hl => ?_)
          have k1837 : Rg x1836 1 12 := rg_add ex1836 k1788 (rg_lit (n := 1) (by decide)) (by decide)
          refine lv_goto (tgt := 83) hx hb dX11_wash_185 (by decide) ?_
          exact ih1532 (x1836, g1835) _ _ _ (by show (12 - (x1836).toInt).toNat < (12 - (y1530).toInt).toNat; exact mu_up ex1836 k1788 k1837 (by decide)) ⟨(rg_w k1837 (by decide)), hg1835_0, hg1835_1, hg1835_2, hP.sub (ws' := [(h, oX11 th aw ai ab ac hi re aP ta po en be de fa a5 sp av an ak ne aW aC ag aT aN aF), (aw, .inl (cI, 2179, .inl g1835))]) [0, 1] rfl, hD.sub (ws' := [(h, oX11 th aw ai ab ac hi re aP ta po en be de fa a5 sp av an ak ne aW aC ag aT aN aF), (aw, .inl (cI, 2179, .inl g1835))]) [0, 1] (by decide) rfl, hS, lv_sub (l' := [(1, .int x1836), (0, .ref h)]) hl [0, 2] rfl⟩
        refine lv_if_ge (tgt := 120) hx hb dX11_wash_114 (by decide) (fun c1838 => ?_) (fun c1838 => ?_)
        · skip
          have k1839 : Rg r1790 0 9 := rg_e2 (leI c1838) (rg_lit (n := 0) (by decide)) k1792 (by decide)
          refine lv_aload_n hx hb dX11_wash_120 rfl (lv_at hl 2 rfl) ?_
          refine lv_iload_n hx hb dX11_wash_121 rfl (lv_at hl 1 rfl) ?_
          refine lv_iconst (v := 1) hx hb dX11_wash_122 (by decide) ?_
          refine lv_sipush (v := 999) hx hb dX11_wash_123 (by decide) ?_
          refine lv_aload_n hx hb dX11_wash_126 rfl (lv_at hl 2 rfl) ?_
          refine lv_iload_n hx hb dX11_wash_127 rfl (lv_at hl 1 rfl) ?_
          refine lv_iconst (v := 1) hx hb dX11_wash_128 (by decide) ?_
          refine kpurei (wc := [(h, oX11 th aw ai ab ac hi re aP ta po en be de fa a5 sp av an ak ne aW aC ag aT aN aF), (aw, .inl (cI, 2179, .inl g1797))]) hP hD hS hA [0, 1] rfl (by decide) (fun hPc hDc hFc => va_runV (As := [.int y1530, .int 1]) (rest := [.int 999, .int 1, .int y1530, .ref h]) ⟨hx, hb, hml, hown, hts⟩ (r_of1 l D cI cJ cB cC h th aw ai ab ac hi re aP ta po en be de fa a5 sp av an ak ne aW aC ag aT aN aF g1797 y1530 H.size k1788 k1800) (cwV 2 hts gX11_wash_X11_of rfl rfl rfl ⟨rfl, hdX11_of⟩ ⟨Nat.le_of_ble_eq_true rfl, Nat.le_of_ble_eq_true rfl⟩) ⟨kBlind, va_recv hK hPc (ci := 10) (q0 := 0) rfl rfl, fun U hU hW => ⟨rfl, by rw [hU], hN.warm hW, hE.pass hS hFc hW hU, by rw [hU]; exact hPc, va_K.moved hW.alike hK, hDc⟩⟩ rfl rfl hl.1 rfl (lv_room (Nat.le_of_ble_eq_true rfl)) dX11_wash_129 ⟨Nat.le_of_ble_eq_true rfl, Nat.le_of_ble_eq_true rfl⟩) (fun r1840 u H locs hw hP hS => ?_)
          have k1841 := hw
          refine lv_aload_n hx hb dX11_wash_132 rfl (lv_at hl 2 rfl) ?_
          refine lv_iload_n hx hb dX11_wash_133 rfl (lv_at hl 0 rfl) ?_
          refine lv_iconst (v := 2) hx hb dX11_wash_134 (by decide) ?_
          refine kpurei (wc := [(h, oX11 th aw ai ab ac hi re aP ta po en be de fa a5 sp av an ak ne aW aC ag aT aN aF), (aw, .inl (cI, 2179, .inl g1797))]) hP hD hS hA [0, 1] rfl (by decide) (fun hPc hDc hFc => va_runV (As := [.int r1790, .int 2]) (rest := [.int r1840, .int 999, .int 1, .int y1530, .ref h]) ⟨hx, hb, hml, hown, hts⟩ (r_ofMan2 l D cI cJ cB cC h th aw ai ab ac hi re aP ta po en be de fa a5 sp av an ak ne aW aC ag aT aN aF g1797 r1790 H.size k1839 k1800) (cwV 2 hts gX11_wash_X11_ofMan rfl rfl rfl ⟨rfl, hdX11_ofMan⟩ ⟨Nat.le_of_ble_eq_true rfl, Nat.le_of_ble_eq_true rfl⟩) ⟨kBlind, va_recv hK hPc (ci := 10) (q0 := 0) rfl rfl, fun U hU hW => ⟨rfl, by rw [hU], hN.warm hW, hE.pass hS hFc hW hU, by rw [hU]; exact hPc, va_K.moved hW.alike hK, hDc⟩⟩ rfl rfl hl.1 rfl (lv_room (Nat.le_of_ble_eq_true rfl)) dX11_wash_135 ⟨Nat.le_of_ble_eq_true rfl, Nat.le_of_ble_eq_true rfl⟩) (fun r1842 u H locs hw hP hS => ?_)
          obtain ⟨k1843, k1844⟩ := hw
          refine lv_iadd hx hb dX11_wash_138 ?_
          refine lv_topi (fun x1845 ex1845 => ?_)
          clear ex1845
          refine va_mmin hx hb (by rw [hml]; exact hl.1.symm) hown (hts _ w34_13) (hts _ w24_21) (hts _ w8_7) (hts _ w24_22) (Nat.le_of_ble_eq_true rfl) (Nat.le_of_ble_eq_true rfl) (Nat.le_of_ble_eq_true rfl) (Nat.le_of_ble_eq_true rfl) dX11_wash_139 ?_
          refine lv_topi (fun x1846 ex1846 => ?_)
          have k1847 : Rg x1846 (-2147483648) 999 := rg_min ex1846 (rg_lit (n := 999) (by decide)) (rg_any x1845) (by decide)
          refine kcallv (wc := [(h, oX11 th aw ai ab ac hi re aP ta po en be de fa a5 sp av an ak ne aW aC ag aT aN aF), (aw, .inl (cI, 2179, .inl g1797))]) (wr := []) hP hD hS hA [0, 1] [] rfl rfl (by decide) (by decide) (by decide) (fun hPc hDc hFc => va_runV (As := [.int y1530, .int 1, .int x1846]) (rest := []) ⟨hx, hb, hml, hown, hts⟩ (r_sets1 l D cI cJ cB cC h th aw ai ab ac hi re aP ta po en be de fa a5 sp av an ak ne aW aC ag aT aN aF g1797 y1530 x1846 H.size k1788 k1800 k1798 k1799) (cwV 3 hts gX11_wash_X11_sets rfl rfl rfl ⟨rfl, hdX11_sets⟩ ⟨Nat.le_of_ble_eq_true rfl, Nat.le_of_ble_eq_true rfl⟩) ⟨kBlind, va_recv hK hPc (ci := 10) (q0 := 0) rfl rfl, fun U hU hW => ⟨rfl, by rw [hU], hN.warm hW, hE.pass hS hFc hW hU, by rw [hU]; exact hPc, va_K.moved hW.alike hK, hDc⟩⟩ rfl rfl hl.1 rfl (lv_room (Nat.le_of_ble_eq_true rfl)) dX11_wash_142 ⟨Nat.le_of_ble_eq_true rfl, Nat.le_of_ble_eq_true rfl⟩) (fun u H locs hw hP hD hS => ?_)
          obtain ⟨g1848, rfl⟩ : ∃ z, z = u := ⟨_, rfl⟩
          have hP : va_P D vwCl [(h, oX11 th aw ai ab ac hi re aP ta po en be de fa a5 sp av an ak ne aW aC ag aT aN aF), (aw, .inl (cI, 2179, .inl g1848))] H := hP
          have hD : va_D A [(h, oX11 th aw ai ab ac hi re aP ta po en be de fa a5 sp av an ak ne aW aC ag aT aN aF), (aw, .inl (cI, 2179, .inl g1848))] := hD
          obtain ⟨k1849, k1850, k1851⟩ := hw
          refine lv_aload_n hx hb dX11_wash_145 rfl (lv_at hl 2 rfl) ?_
          refine lv_iload_n hx hb dX11_wash_146 rfl (lv_at hl 1 rfl) ?_
          refine lv_iconst (v := 3) hx hb dX11_wash_147 (by decide) ?_
          refine lv_iconst (v := 0) hx hb dX11_wash_148 (by decide) ?_
          refine lv_aload_n hx hb dX11_wash_149 rfl (lv_at hl 2 rfl) ?_
          refine lv_iload_n hx hb dX11_wash_150 rfl (lv_at hl 1 rfl) ?_
          refine lv_iconst (v := 3) hx hb dX11_wash_151 (by decide) ?_
          refine kpurei (wc := [(h, oX11 th aw ai ab ac hi re aP ta po en be de fa a5 sp av an ak ne aW aC ag aT aN aF), (aw, .inl (cI, 2179, .inl g1848))]) hP hD hS hA [0, 1] rfl (by decide) (fun hPc hDc hFc => va_runV (As := [.int y1530, .int 3]) (rest := [.int 0, .int 3, .int y1530, .ref h]) ⟨hx, hb, hml, hown, hts⟩ (r_of3 l D cI cJ cB cC h th aw ai ab ac hi re aP ta po en be de fa a5 sp av an ak ne aW aC ag aT aN aF g1848 y1530 H.size k1788 k1851) (cwV 2 hts gX11_wash_X11_of rfl rfl rfl ⟨rfl, hdX11_of⟩ ⟨Nat.le_of_ble_eq_true rfl, Nat.le_of_ble_eq_true rfl⟩) ⟨kBlind, va_recv hK hPc (ci := 10) (q0 := 0) rfl rfl, fun U hU hW => ⟨rfl, by rw [hU], hN.warm hW, hE.pass hS hFc hW hU, by rw [hU]; exact hPc, va_K.moved hW.alike hK, hDc⟩⟩ rfl rfl hl.1 rfl (lv_room (Nat.le_of_ble_eq_true rfl)) dX11_wash_152 ⟨Nat.le_of_ble_eq_true rfl, Nat.le_of_ble_eq_true rfl⟩) (fun r1852 u H locs hw hP hS => ?_)
          have k1853 := hw
          refine lv_iconst (v := 1) hx hb dX11_wash_155 (by decide) ?_
          refine lv_isub hx hb dX11_wash_156 ?_
          refine lv_topi (fun x1854 ex1854 => ?_)
          clear ex1854
          refine va_mmax hx hb (by rw [hml]; exact hl.1.symm) hown (hts _ w34_14) (hts _ w8_6) (hts _ w8_7) (hts _ w8_8) (Nat.le_of_ble_eq_true rfl) (Nat.le_of_ble_eq_true rfl) (Nat.le_of_ble_eq_true rfl) (Nat.le_of_ble_eq_true rfl) dX11_wash_157 ?_
          refine lv_topi (fun x1855 ex1855 => ?_)
          have k1856 : Rg x1855 0 2147483647 := rg_max ex1855 (rg_lit (n := 0) (by decide)) (rg_any x1854) (by decide)
          refine kcallv (wc := [(h, oX11 th aw ai ab ac hi re aP ta po en be de fa a5 sp av an ak ne aW aC ag aT aN aF), (aw, .inl (cI, 2179, .inl g1848))]) (wr := []) hP hD hS hA [0, 1] [] rfl rfl (by decide) (by decide) (by decide) (fun hPc hDc hFc => va_runV (As := [.int y1530, .int 3, .int x1855]) (rest := []) ⟨hx, hb, hml, hown, hts⟩ (r_sets3 l D cI cJ cB cC h th aw ai ab ac hi re aP ta po en be de fa a5 sp av an ak ne aW aC ag aT aN aF g1848 y1530 x1855 H.size k1788 k1851 k1849 k1850) (cwV 3 hts gX11_wash_X11_sets rfl rfl rfl ⟨rfl, hdX11_sets⟩ ⟨Nat.le_of_ble_eq_true rfl, Nat.le_of_ble_eq_true rfl⟩) ⟨kBlind, va_recv hK hPc (ci := 10) (q0 := 0) rfl rfl, fun U hU hW => ⟨rfl, by rw [hU], hN.warm hW, hE.pass hS hFc hW hU, by rw [hU]; exact hPc, va_K.moved hW.alike hK, hDc⟩⟩ rfl rfl hl.1 rfl (lv_room (Nat.le_of_ble_eq_true rfl)) dX11_wash_160 ⟨Nat.le_of_ble_eq_true rfl, Nat.le_of_ble_eq_true rfl⟩) (fun u H locs hw hP hD hS => ?_)
          obtain ⟨g1857, rfl⟩ : ∃ z, z = u := ⟨_, rfl⟩
          have hP : va_P D vwCl [(h, oX11 th aw ai ab ac hi re aP ta po en be de fa a5 sp av an ak ne aW aC ag aT aN aF), (aw, .inl (cI, 2179, .inl g1857))] H := hP
          have hD : va_D A [(h, oX11 th aw ai ab ac hi re aP ta po en be de fa a5 sp av an ak ne aW aC ag aT aN aF), (aw, .inl (cI, 2179, .inl g1857))] := hD
          obtain ⟨k1858, k1859, k1860⟩ := hw
          refine lv_aload_n hx hb dX11_wash_163 rfl (lv_at hl 2 rfl) ?_
          refine lv_iload_n hx hb dX11_wash_164 rfl (lv_at hl 1 rfl) ?_
          refine lv_iconst (v := 2) hx hb dX11_wash_165 (by decide) ?_
          refine lv_bipush (v := 99) hx hb dX11_wash_166 (by decide) ?_
          refine lv_aload_n hx hb dX11_wash_168 rfl (lv_at hl 2 rfl) ?_
          refine lv_iload_n hx hb dX11_wash_169 rfl (lv_at hl 1 rfl) ?_
          refine lv_iconst (v := 2) hx hb dX11_wash_170 (by decide) ?_
          refine kpurei (wc := [(h, oX11 th aw ai ab ac hi re aP ta po en be de fa a5 sp av an ak ne aW aC ag aT aN aF), (aw, .inl (cI, 2179, .inl g1857))]) hP hD hS hA [0, 1] rfl (by decide) (fun hPc hDc hFc => va_runV (As := [.int y1530, .int 2]) (rest := [.int 99, .int 2, .int y1530, .ref h]) ⟨hx, hb, hml, hown, hts⟩ (r_of2 l D cI cJ cB cC h th aw ai ab ac hi re aP ta po en be de fa a5 sp av an ak ne aW aC ag aT aN aF g1857 y1530 H.size k1788 k1860) (cwV 2 hts gX11_wash_X11_of rfl rfl rfl ⟨rfl, hdX11_of⟩ ⟨Nat.le_of_ble_eq_true rfl, Nat.le_of_ble_eq_true rfl⟩) ⟨kBlind, va_recv hK hPc (ci := 10) (q0 := 0) rfl rfl, fun U hU hW => ⟨rfl, by rw [hU], hN.warm hW, hE.pass hS hFc hW hU, by rw [hU]; exact hPc, va_K.moved hW.alike hK, hDc⟩⟩ rfl rfl hl.1 rfl (lv_room (Nat.le_of_ble_eq_true rfl)) dX11_wash_171 ⟨Nat.le_of_ble_eq_true rfl, Nat.le_of_ble_eq_true rfl⟩) (fun r1861 u H locs hw hP hS => ?_)
          have k1862 := hw
          refine lv_iconst (v := 3) hx hb dX11_wash_174 (by decide) ?_
          refine lv_iadd hx hb dX11_wash_175 ?_
          refine lv_topi (fun x1863 ex1863 => ?_)
          refine va_mmin hx hb (by rw [hml]; exact hl.1.symm) hown (hts _ w34_13) (hts _ w24_21) (hts _ w8_7) (hts _ w24_22) (Nat.le_of_ble_eq_true rfl) (Nat.le_of_ble_eq_true rfl) (Nat.le_of_ble_eq_true rfl) (Nat.le_of_ble_eq_true rfl) dX11_wash_176 ?_
          refine lv_topi (fun x1864 ex1864 => ?_)
          have k1865 : Rg x1864 (-2147483648) 99 := rg_min ex1864 (rg_lit (n := 99) (by decide)) (rg_any x1863) (by decide)
          refine kcallv (wc := [(h, oX11 th aw ai ab ac hi re aP ta po en be de fa a5 sp av an ak ne aW aC ag aT aN aF), (aw, .inl (cI, 2179, .inl g1857))]) (wr := []) hP hD hS hA [0, 1] [] rfl rfl (by decide) (by decide) (by decide) (fun hPc hDc hFc => va_runV (As := [.int y1530, .int 2, .int x1864]) (rest := []) ⟨hx, hb, hml, hown, hts⟩ (r_sets2 l D cI cJ cB cC h th aw ai ab ac hi re aP ta po en be de fa a5 sp av an ak ne aW aC ag aT aN aF g1857 y1530 x1864 H.size k1788 k1860 k1858 k1859) (cwV 3 hts gX11_wash_X11_sets rfl rfl rfl ⟨rfl, hdX11_sets⟩ ⟨Nat.le_of_ble_eq_true rfl, Nat.le_of_ble_eq_true rfl⟩) ⟨kBlind, va_recv hK hPc (ci := 10) (q0 := 0) rfl rfl, fun U hU hW => ⟨rfl, by rw [hU], hN.warm hW, hE.pass hS hFc hW hU, by rw [hU]; exact hPc, va_K.moved hW.alike hK, hDc⟩⟩ rfl rfl hl.1 rfl (lv_room (Nat.le_of_ble_eq_true rfl)) dX11_wash_179 ⟨Nat.le_of_ble_eq_true rfl, Nat.le_of_ble_eq_true rfl⟩) (fun u H locs hw hP hD hS => ?_)
          obtain ⟨g1866, rfl⟩ : ∃ z, z = u := ⟨_, rfl⟩
          have hP : va_P D vwCl [(h, oX11 th aw ai ab ac hi re aP ta po en be de fa a5 sp av an ak ne aW aC ag aT aN aF), (aw, .inl (cI, 2179, .inl g1866))] H := hP
          have hD : va_D A [(h, oX11 th aw ai ab ac hi re aP ta po en be de fa a5 sp av an ak ne aW aC ag aT aN aF), (aw, .inl (cI, 2179, .inl g1866))] := hD
          obtain ⟨k1867, k1868, k1869⟩ := hw
          exact hJ182 (g1866) _ _ _ ⟨k1867, k1868, k1869, hP.sub (ws' := [(h, oX11 th aw ai ab ac hi re aP ta po en be de fa a5 sp av an ak ne aW aC ag aT aN aF), (aw, .inl (cI, 2179, .inl g1866))]) [0, 1] rfl, hD.sub (ws' := [(h, oX11 th aw ai ab ac hi re aP ta po en be de fa a5 sp av an ak ne aW aC ag aT aN aF), (aw, .inl (cI, 2179, .inl g1866))]) [0, 1] (by decide) rfl, hS, lv_sub (l' := [(2, .int r1790), (1, .int y1530), (0, .ref h)]) hl [0, 1, 2] rfl⟩
        · skip
          have k1870 : Rg r1790 (-1) (-1) := rg_l1 (nleI c1838) k1792 (rg_lit (n := 0) (by decide)) (by decide)
          refine lv_goto (tgt := 182) hx hb dX11_wash_117 (by decide) ?_
          exact hJ182 (g1797) _ _ _ ⟨k1798, k1799, k1800, hP.sub (ws' := [(h, oX11 th aw ai ab ac hi re aP ta po en be de fa a5 sp av an ak ne aW aC ag aT aN aF), (aw, .inl (cI, 2179, .inl g1797))]) [0, 1] rfl, hD.sub (ws' := [(h, oX11 th aw ai ab ac hi re aP ta po en be de fa a5 sp av an ak ne aW aC ag aT aN aF), (aw, .inl (cI, 2179, .inl g1797))]) [0, 1] (by decide) rfl, hS, lv_sub (l' := [(2, .int r1790), (1, .int y1530), (0, .ref h)]) hl [0, 1, 2] rfl⟩
    · skip
      have k1871 : Rg y649 0 11 := rg_l1 (nleI c652) hy649 (rg_lit (n := 12) (by decide)) (by decide)
      refine lv_aload_n hx hb dX11_wash_47 rfl (lv_at hl 1 rfl) ?_
      refine va_get (D := D) (ci := 10) (v := .ref aw) (C := RX11) (T := TX11) (N := 26) hx hb hts iG_X11 hown hK hP 0 rfl rfl 1 (by decide) (hts _ w5_3) (fun _ h9 => h9) rfl dX11_wash_48 ?_
      refine lv_sipush (v := 145) hx hb dX11_wash_51 (by decide) ?_
      refine lv_iload_n hx hb dX11_wash_54 rfl (lv_at hl 0 rfl) ?_
      refine lv_iadd hx hb dX11_wash_55 ?_
      refine lv_topi (fun x1872 ex1872 => ?_)
      have k1873 : Rg x1872 145 156 := rg_add ex1872 (rg_lit (n := 145) (by decide)) k1871 (by decide)
      clear ex1872
      refine lv_iload_n hx hb dX11_wash_56 rfl (lv_at hl 0 rfl) ?_
      refine lv_aload_n hx hb dX11_wash_57 rfl (lv_at hl 1 rfl) ?_
      refine kpurei (wc := [(h, oX11 th aw ai ab ac hi re aP ta po en be de fa a5 sp av an ak ne aW aC ag aT aN aF), (aw, .inl (cI, 2179, .inl g650))]) hP hD hS hA [0, 1] rfl (by decide) (fun hPc hDc hFc => va_runV (As := []) (rest := [.int y649, .int x1872, .ref aw]) ⟨hx, hb, hml, hown, hts⟩ (r_shirts l D cI cJ cB cC h th aw ai ab ac hi re aP ta po en be de fa a5 sp av an ak ne aW aC ag aT aN aF g650 H.size hg650_2) (cwV 0 hts gX11_wash_X11_shirts rfl rfl rfl ⟨rfl, hdX11_shirts⟩ ⟨Nat.le_of_ble_eq_true rfl, Nat.le_of_ble_eq_true rfl⟩) ⟨kBlind, va_recv hK hPc (ci := 10) (q0 := 0) rfl rfl, fun U hU hW => ⟨rfl, by rw [hU], hN.warm hW, hE.pass hS hFc hW hU, by rw [hU]; exact hPc, va_K.moved hW.alike hK, hDc⟩⟩ rfl rfl hl.1 rfl (lv_room (Nat.le_of_ble_eq_true rfl)) dX11_wash_58 ⟨Nat.le_of_ble_eq_true rfl, Nat.le_of_ble_eq_true rfl⟩) (fun r1874 u H locs hw hP hS => ?_)
      obtain ⟨k1875, k1876⟩ := hw
      refine k_join (hd := 74) (cells2 := 0) (slots2 := 0) (fun (u : Int32 × Int32) => match u with | (z1885, z1886) => [.int z1885, .int z1886, .ref aw]) (fun (u : Int32 × Int32) (H : Heap) (locs : List Loc) (ls : Array Slot) => match u with | (z1885, z1886) => Rg z1885 (-1) 9 ∧ Rg z1886 145 156 ∧ va_P D vwCl [(h, oX11 th aw ai ab ac hi re aP ta po en be de fa a5 sp av an ak ne aW aC ag aT aN aF), (aw, .inl (cI, 2179, .inl g650))] H ∧ va_D A [(h, oX11 th aw ai ab ac hi re aP ta po en be de fa a5 sp av an ak ne aW aC ag aT aN aF), (aw, .inl (cI, 2179, .inl g650))] ∧ va_S A s.heap H locs ∧ lv_has ls 3 [(1, .int y649), (0, .ref h)]) (fun u H locs ls hI => ?_) (fun hJ74 => ?_)
      · skip
        clear hP hD hS hl
        obtain ⟨z1885, z1886⟩ := u
        obtain ⟨hz1885, hz1886, hP, hD, hS, hl⟩ := hI
        have hP : va_P D vwCl [(h, oX11 th aw ai ab ac hi re aP ta po en be de fa a5 sp av an ak ne aW aC ag aT aN aF), (aw, .inl (cI, 2179, .inl g650))] H := hP
        have hD : va_D A [(h, oX11 th aw ai ab ac hi re aP ta po en be de fa a5 sp av an ak ne aW aC ag aT aN aF), (aw, .inl (cI, 2179, .inl g650))] := hD
        have hl : lv_has ls 3 [(1, .int y649), (0, .ref h)] := hl
        show W _ _ _ _ _ _ _ _ _ _ _ _ _ _ _ (F0 m 74 ls [.int z1885, .int z1886, .ref aw])
        refine va_iast hx hb hK hP hD hS 1 0 rfl rfl (rg_in hz1886 (by decide)) dX11_wash_74 (fun H locs hP hD hS => ?_)
        have hP : va_P D vwCl [(h, oX11 th aw ai ab ac hi re aP ta po en be de fa a5 sp av an ak ne aW aC ag aT aN aF), (aw, .inl (cI, 2179, .inl (upd g650 z1886.toNatClampNeg z1885)))] H := hP
        have hD : va_D A [(h, oX11 th aw ai ab ac hi re aP ta po en be de fa a5 sp av an ak ne aW aC ag aT aN aF), (aw, .inl (cI, 2179, .inl (upd g650 z1886.toNatClampNeg z1885)))] := hD
        have k1888 : wB (upd g650 z1886.toNatClampNeg z1885) := wB_hi hg650_0 hg650_2 hz1886 (by decide)
        have k1889 : wL (upd g650 z1886.toNatClampNeg z1885) := wL_out hg650_1 hz1886 (by decide)
        have k1890 : wW (upd g650 z1886.toNatClampNeg z1885) := wW_hi hg650_2 hz1886 (by decide)
        generalize hge : (upd g650 z1886.toNatClampNeg z1885) = g1887 at hP hD k1888 k1889 k1890
        clear hge
        obtain ⟨x1891, ex1891⟩ : ∃ y : Int32, y = y649 + 1 := ⟨_, rfl⟩
        refine lv_iinc (v := x1891) (lv' := [(1, .int x1891), (0, .ref h)]) hx hb dX11_wash_75 hl (k := 0) rfl (by rw [ex1891]; rfl) (by decide) rfl (fun ls hl => ?_)
        have k1892 : Rg x1891 1 12 := rg_add ex1891 k1871 (rg_lit (n := 1) (by decide)) (by decide)
        refine lv_goto (tgt := 41) hx hb dX11_wash_78 (by decide) ?_
        exact ih651 (x1891, g1887) _ _ _ (by show (12 - (x1891).toInt).toNat < (12 - (y649).toInt).toNat; exact mu_up ex1891 k1871 k1892 (by decide)) ⟨(rg_w k1892 (by decide)), k1888, k1889, k1890, hP.sub (ws' := [(h, oX11 th aw ai ab ac hi re aP ta po en be de fa a5 sp av an ak ne aW aC ag aT aN aF), (aw, .inl (cI, 2179, .inl g1887))]) [0, 1] rfl, hD.sub (ws' := [(h, oX11 th aw ai ab ac hi re aP ta po en be de fa a5 sp av an ak ne aW aC ag aT aN aF), (aw, .inl (cI, 2179, .inl g1887))]) [0, 1] (by decide) rfl, hS, lv_sub (l' := [(1, .int x1891), (0, .ref h)]) hl [0, 1] rfl⟩
      refine lv_icmp_ge (tgt := 73) hx hb dX11_wash_61 (by decide) (fun c1893 => ?_) (fun c1893 => ?_)
      · skip
        have k1894 : Rg r1874 0 11 := rg_e1 (leI c1893) k1876 k1871 (by decide)
        refine lv_iconst (v := (-1)) hx hb dX11_wash_73 (by decide) ?_
        exact hJ74 ((-1 : Int32), x1872) _ _ _ ⟨(rg_w (rg_lit (n := -1) (by decide)) (by decide)), k1873, hP.sub (ws' := [(h, oX11 th aw ai ab ac hi re aP ta po en be de fa a5 sp av an ak ne aW aC ag aT aN aF), (aw, .inl (cI, 2179, .inl g650))]) [0, 1] rfl, hD.sub (ws' := [(h, oX11 th aw ai ab ac hi re aP ta po en be de fa a5 sp av an ak ne aW aC ag aT aN aF), (aw, .inl (cI, 2179, .inl g650))]) [0, 1] (by decide) rfl, hS, lv_sub (l' := [(1, .int y649), (0, .ref h)]) hl [0, 1] rfl⟩
      · skip
        have k1895 : Rg r1874 1 12 := rg_l2 (nleI c1893) k1871 k1876 (by decide)
        refine lv_aload_n hx hb dX11_wash_64 rfl (lv_at hl 1 rfl) ?_
        refine lv_iload_n hx hb dX11_wash_65 rfl (lv_at hl 0 rfl) ?_
        refine lv_iconst (v := 5) hx hb dX11_wash_66 (by decide) ?_
        refine kpurei (wc := [(h, oX11 th aw ai ab ac hi re aP ta po en be de fa a5 sp av an ak ne aW aC ag aT aN aF), (aw, .inl (cI, 2179, .inl g650))]) hP hD hS hA [0, 1] rfl (by decide) (fun hPc hDc hFc => va_runV (As := [.int y649, .int 5]) (rest := [.int x1872, .ref aw]) ⟨hx, hb, hml, hown, hts⟩ (r_of5 l D cI cJ cB cC h th aw ai ab ac hi re aP ta po en be de fa a5 sp av an ak ne aW aC ag aT aN aF g650 y649 H.size k1871 hg650_2) (cwV 2 hts gX11_wash_X11_of rfl rfl rfl ⟨rfl, hdX11_of⟩ ⟨Nat.le_of_ble_eq_true rfl, Nat.le_of_ble_eq_true rfl⟩) ⟨kBlind, va_recv hK hPc (ci := 10) (q0 := 0) rfl rfl, fun U hU hW => ⟨rfl, by rw [hU], hN.warm hW, hE.pass hS hFc hW hU, by rw [hU]; exact hPc, va_K.moved hW.alike hK, hDc⟩⟩ rfl rfl hl.1 rfl (lv_room (Nat.le_of_ble_eq_true rfl)) dX11_wash_67 ⟨Nat.le_of_ble_eq_true rfl, Nat.le_of_ble_eq_true rfl⟩) (fun r1896 u H locs hw hP hS => ?_)
        obtain ⟨k1897, k1898⟩ := hw
        refine lv_goto (tgt := 74) hx hb dX11_wash_70 (by decide) ?_
        exact hJ74 (r1896, x1872) _ _ _ ⟨k1898, k1873, hP.sub (ws' := [(h, oX11 th aw ai ab ac hi re aP ta po en be de fa a5 sp av an ak ne aW aC ag aT aN aF), (aw, .inl (cI, 2179, .inl g650))]) [0, 1] rfl, hD.sub (ws' := [(h, oX11 th aw ai ab ac hi re aP ta po en be de fa a5 sp av an ak ne aW aC ag aT aN aF), (aw, .inl (cI, 2179, .inl g650))]) [0, 1] (by decide) rfl, hS, lv_sub (l' := [(1, .int y649), (0, .ref h)]) hl [0, 1] rfl⟩
  · skip
    have k1899 : Rg y273 12 359 := rg_e2 (nltI c276) (rg_lit (n := 12) (by decide)) hy273 (by decide)
    refine lv_aload_n hx hb dX11_wash_10 rfl (lv_at hl 1 rfl) ?_
    refine va_get (D := D) (ci := 10) (v := .ref aw) (C := RX11) (T := TX11) (N := 26) hx hb hts iG_X11 hown hK hP 0 rfl rfl 1 (by decide) (hts _ w5_3) (fun _ h9 => h9) rfl dX11_wash_11 ?_
    refine lv_sipush (v := 145) hx hb dX11_wash_14 (by decide) ?_
    refine lv_iload_n hx hb dX11_wash_17 rfl (lv_at hl 0 rfl) ?_
    refine lv_iadd hx hb dX11_wash_18 ?_
    refine lv_topi (fun x1900 ex1900 => ?_)
    have k1901 : Rg x1900 157 504 := rg_add ex1900 (rg_lit (n := 145) (by decide)) k1899 (by decide)
    clear ex1900
    refine lv_aload_n hx hb dX11_wash_19 rfl (lv_at hl 1 rfl) ?_
    refine va_get (D := D) (ci := 10) (v := .ref aw) (C := RX11) (T := TX11) (N := 26) hx hb hts iG_X11 hown hK hP 0 rfl rfl 1 (by decide) (hts _ w5_3) (fun _ h9 => h9) rfl dX11_wash_20 ?_
    refine lv_sipush (v := 145) hx hb dX11_wash_23 (by decide) ?_
    refine lv_iload_n hx hb dX11_wash_26 rfl (lv_at hl 0 rfl) ?_
    refine lv_iadd hx hb dX11_wash_27 ?_
    refine lv_topi (fun x1902 ex1902 => ?_)
    have k1903 : Rg x1902 157 504 := rg_add ex1902 (rg_lit (n := 145) (by decide)) k1899 (by decide)
    clear ex1902
    refine lv_bipush (v := 12) hx hb dX11_wash_28 (by decide) ?_
    refine lv_isub hx hb dX11_wash_30 ?_
    refine lv_topi (fun x1904 ex1904 => ?_)
    have k1905 : Rg x1904 145 492 := rg_sub ex1904 k1903 (rg_lit (n := 12) (by decide)) (by decide)
    clear ex1904
    refine va_iald hx hb hK hP 1 0 rfl rfl (rg_in k1905 (by decide)) dX11_wash_31 ?_
    refine lv_topi (fun x1906 ex1906 => ?_)
    clear ex1906
    refine va_iast hx hb hK hP hD hS 1 0 rfl rfl (rg_in k1901 (by decide)) dX11_wash_32 (fun H locs hP hD hS => ?_)
    have hP : va_P D vwCl [(h, oX11 th aw ai ab ac hi re aP ta po en be de fa a5 sp av an ak ne aW aC ag aT aN aF), (aw, .inl (cI, 2179, .inl (upd g274 x1900.toNatClampNeg x1906)))] H := hP
    have hD : va_D A [(h, oX11 th aw ai ab ac hi re aP ta po en be de fa a5 sp av an ak ne aW aC ag aT aN aF), (aw, .inl (cI, 2179, .inl (upd g274 x1900.toNatClampNeg x1906)))] := hD
    have k1908 : wB (upd g274 x1900.toNatClampNeg x1906) := wB_hi hg274_0 hg274_2 k1901 (by decide)
    have k1909 : wL (upd g274 x1900.toNatClampNeg x1906) := wL_out hg274_1 k1901 (by decide)
    have k1910 : wW (upd g274 x1900.toNatClampNeg x1906) := wW_hi hg274_2 k1901 (by decide)
    generalize hge : (upd g274 x1900.toNatClampNeg x1906) = g1907 at hP hD k1908 k1909 k1910
    clear hge
    obtain ⟨x1911, ex1911⟩ : ∃ y : Int32, y = y273 + (-1) := ⟨_, rfl⟩
    refine lv_iinc (v := x1911) (lv' := [(1, .int x1911), (0, .ref h)]) hx hb dX11_wash_33 hl (k := 0) rfl (by rw [ex1911]; rfl) (by decide) rfl (fun ls hl => ?_)
    have k1912 : Rg x1911 11 358 := rg_add ex1911 k1899 (rg_lit (n := -1) (by decide)) (by decide)
    refine lv_goto (tgt := 4) hx hb dX11_wash_36 (by decide) ?_
    exact ih275 (x1911, g1907) _ _ _ (by show ((x1911).toInt - 11).toNat < ((y273).toInt - 11).toNat; exact mu_dn ex1911 k1899 k1912 (by decide)) ⟨(rg_w k1912 (by decide)), k1908, k1909, k1910, hP.sub (ws' := [(h, oX11 th aw ai ab ac hi re aP ta po en be de fa a5 sp av an ak ne aW aC ag aT aN aF), (aw, .inl (cI, 2179, .inl g1907))]) [0, 1] rfl, hD.sub (ws' := [(h, oX11 th aw ai ab ac hi re aP ta po en be de fa a5 sp av an ak ne aW aC ag aT aN aF), (aw, .inl (cI, 2179, .inl g1907))]) [0, 1] (by decide) rfl, hS, lv_sub (l' := [(1, .int x1911), (0, .ref h)]) hl [0, 1] rfl⟩

