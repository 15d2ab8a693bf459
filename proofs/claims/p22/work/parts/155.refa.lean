def kwX11_isNeighbour : List Cond := .code yX11_isNeighbour cX11_isNeighbour 3 (some .boolean) :: kG
theorem hdX11_isNeighbour : yX11_isNeighbour.cls ≠ "java/lang/invoke/MethodHandle" ∧ yX11_isNeighbour.cls ≠ "java/lang/invoke/VarHandle" ∧ (parseMethodDescriptor yX11_isNeighbour.desc).map (fun d => d.parameters.length) = some 2 := by decide +kernel
theorem gX11_isNeighbour_X11_ofMan : GoodIn kG (wsV RX11 153 RX11 yX11_ofMan kwX11_ofMan) := gK w21_5 (gK w21_6 (gK w21_7 (gK w0_5 (gK w21_8 gGG))))
theorem dX11_isNeighbour_0 : decode cX11_isNeighbour 0 = .ok (.iload_n 1, 1) := by decide +kernel
theorem dX11_isNeighbour_1 : decode cX11_isNeighbour 1 = .ok (.iload_n 2, 1) := by decide +kernel
theorem dX11_isNeighbour_2 : decode cX11_isNeighbour 2 = .ok (.if_icmp .eq 33, 3) := by decide +kernel
theorem dX11_isNeighbour_5 : decode cX11_isNeighbour 5 = .ok (.aload_n 0, 1) := by decide +kernel
theorem dX11_isNeighbour_6 : decode cX11_isNeighbour 6 = .ok (.iload_n 1, 1) := by decide +kernel
theorem dX11_isNeighbour_7 : decode cX11_isNeighbour 7 = .ok (.iconst 0, 1) := by decide +kernel
theorem dX11_isNeighbour_8 : decode cX11_isNeighbour 8 = .ok (.invokevirtual 153, 3) := by decide +kernel
theorem dX11_isNeighbour_11 : decode cX11_isNeighbour 11 = .ok (.aload_n 0, 1) := by decide +kernel
theorem dX11_isNeighbour_12 : decode cX11_isNeighbour 12 = .ok (.iload_n 2, 1) := by decide +kernel
theorem dX11_isNeighbour_13 : decode cX11_isNeighbour 13 = .ok (.iconst 0, 1) := by decide +kernel
theorem dX11_isNeighbour_14 : decode cX11_isNeighbour 14 = .ok (.invokevirtual 153, 3) := by decide +kernel
theorem dX11_isNeighbour_17 : decode cX11_isNeighbour 17 = .ok (.isub, 1) := by decide +kernel
theorem dX11_isNeighbour_18 : decode cX11_isNeighbour 18 = .ok (.invokestatic 261, 3) := by decide +kernel
theorem dX11_isNeighbour_21 : decode cX11_isNeighbour 21 = .ok (.aload_n 0, 1) := by decide +kernel
theorem dX11_isNeighbour_22 : decode cX11_isNeighbour 22 = .ok (.getfield 13, 3) := by decide +kernel
theorem dX11_isNeighbour_25 : decode cX11_isNeighbour 25 = .ok (.bipush 6, 2) := by decide +kernel
theorem dX11_isNeighbour_27 : decode cX11_isNeighbour 27 = .ok (.iaload, 1) := by decide +kernel
theorem dX11_isNeighbour_28 : decode cX11_isNeighbour 28 = .ok (.if_icmp .gt 7, 3) := by decide +kernel
theorem dX11_isNeighbour_31 : decode cX11_isNeighbour 31 = .ok (.iconst 1, 1) := by decide +kernel
theorem dX11_isNeighbour_32 : decode cX11_isNeighbour 32 = .ok (.goto 4, 3) := by decide +kernel
theorem dX11_isNeighbour_35 : decode cX11_isNeighbour 35 = .ok (.iconst 0, 1) := by decide +kernel
theorem dX11_isNeighbour_36 : decode cX11_isNeighbour 36 = .ok (.ireturn, 1) := by decide +kernel
set_option maxHeartbeats 4000000 in
set_option maxRecDepth 100000 in
/-- reference: isNeighbour -/
theorem r_isNeighbour (l : Launch) (D : va_G) (cI cJ cB cC : ClassId) (h : Nat) (th : Int32) (aw : Nat) (ai : Nat) (ab : Nat) (ac : Nat) (hi : Int32) (re : Int32) (aP : Nat) (ta : Int32) (po : Int32) (en : Int32) (be : Int32) (de : Int32) (fa : Int32) (a5 : Nat) (sp : Int32) (av : Nat) (an : Nat) (ak : Nat) (ne : Int32) (aW : Nat) (aC : Nat) (ag : Nat) (aT : Nat) (aN : Nat) (aF : Nat) (fw : Nat → Int32) (mm : Int32) (b : Int32) (sz : Nat) (H_mm : Rg mm 0 9) (H_b : Rg b 0 9) (H_fw_W : wW fw) : Met l yX11_isNeighbour kwX11_isNeighbour ({ frames := 1, cells := 0, slots := 0, locals := 22 } : Room) (kPre D (kT cI cJ cB cC) sz [(h, oX11 th aw ai ab ac hi re aP ta po en be de fa a5 sp av an ak ne aW aC ag aT aN aF), (aw, kcI cI 2179 fw)] [.ref h, .int mm, .int b]) (va_Qi (fun (r : Int32) (_ : Unit) => F_r_isNeighbour (gT fw) (mm : Int32).toInt (b : Int32).toInt = ((r : Int32).toInt) ∧ ((r = 0) ∨ (r = 1))) (fun (_ : Unit) (t : State) => kB D (kT cI cJ cB cC) (va_A [(h, oX11 th aw ai ab ac hi re aP ta po en be de fa a5 sp av an ak ne aW aC ag aT aN aF), (aw, kcI cI 2179 fw)] sz) [(h, oX11 th aw ai ab ac hi re aP ta po en be de fa a5 sp av an ak ne aW aC ag aT aN aF), (aw, kcI cI 2179 fw)] t) (va_A [(h, oX11 th aw ai ab ac hi re aP ta po en be de fa a5 sp av an ak ne aW aC ag aT aN aF), (aw, kcI cI 2179 fw)] sz)) 0 0 (va_A [(h, oX11 th aw ai ab ac hi re aP ta po en be de fa a5 sp av an ak ne aW aC ag aT aN aF), (aw, kcI cI 2179 fw)] sz) := by
  refine Met.ofW (cc := cX11_isNeighbour) (maxL := 3) (ret := (some .boolean)) (by decide) rfl ?_
  intro p e s m args below meth c s₁ B hml hv
  obtain ⟨rfl, hsz, hN, hE, hP, hK, hD0⟩ := hv
  have hx := B.exec
  have hb := B.bytes
  have hr := B.returns
  have hts := fun (w : Cond) (h : w ∈ kG) => atoms_spec (ws := kwX11_isNeighbour) B.pre w (List.mem_cons_of_mem _ h)
  have hown : s.vm.findClass RX11 = some m.cls := findClass_of_methodNamed B.named
  subst hsz
  have hD := hD0.self (sz := s.heap.size)
  generalize hAe : va_A [(h, oX11 th aw ai ab ac hi re aP ta po en be de fa a5 sp av an ak ne aW aC ag aT aN aF), (aw, kcI cI 2179 fw)] s.heap.size = A at hD hE ⊢
  have hA : ∀ q : Nat, s.heap.size ≤ q → A q := fun q h => by rw [← hAe]; exact Or.inr h
  have hl := lv_entry ([.ref h, .int mm, .int b]) (n := 3) (Nat.le_of_ble_eq_true rfl)
  rw [lg_entry_eq]
  generalize (lg_sl ([.ref h, .int mm, .int b]) ++ List.replicate (3 - (lg_sl ([.ref h, .int mm, .int b])).length) Slot.unset).toArray = ls at hl ⊢
  have hl : lv_has ls 3 [(0, .ref h), (1, .int mm), (2, .int b)] := hl
  obtain ⟨H, hH0⟩ : ∃ H, H = s.heap := ⟨_, rfl⟩
  have hS : va_S A s.heap H [] := by rw [hH0]; exact va_S.rf
  have hP : va_P D vwCl [(h, oX11 th aw ai ab ac hi re aP ta po en be de fa a5 sp av an ak ne aW aC ag aT aN aF), (aw, kcI cI 2179 fw)] H := by rw [hH0]; exact hP
  refine kHeap hH0 ?_
  clear hH0
  refine lv_iload_n hx hb dX11_isNeighbour_0 rfl (lv_at hl 1 rfl) ?_
  refine lv_iload_n hx hb dX11_isNeighbour_1 rfl (lv_at hl 2 rfl) ?_
  refine k_join (hd := 35) (cells2 := 0) (slots2 := 0) (fun (_ : Unit) => []) (fun (_ : Unit) (H : Heap) (locs : List Loc) (ls : Array Slot) => (F_r_isNeighbour (gT fw) mm.toInt b.toInt = F_r_isNeighbour_j1) ∧ va_P D vwCl [(h, oX11 th aw ai ab ac hi re aP ta po en be de fa a5 sp av an ak ne aW aC ag aT aN aF), (aw, kcI cI 2179 fw)] H ∧ va_D A [(h, oX11 th aw ai ab ac hi re aP ta po en be de fa a5 sp av an ak ne aW aC ag aT aN aF), (aw, kcI cI 2179 fw)] ∧ va_S A s.heap H locs ∧ lv_has ls 3 [(0, .ref h), (1, .int mm), (2, .int b)]) (fun u H locs ls hI => ?_) (fun hJ35 => ?_)
  · skip
    clear hP hD hS hl
    obtain ⟨hF1, hP, hD, hS, hl⟩ := hI
    have hP : va_P D vwCl [(h, oX11 th aw ai ab ac hi re aP ta po en be de fa a5 sp av an ak ne aW aC ag aT aN aF), (aw, kcI cI 2179 fw)] H := hP
    have hD : va_D A [(h, oX11 th aw ai ab ac hi re aP ta po en be de fa a5 sp av an ak ne aW aC ag aT aN aF), (aw, kcI cI 2179 fw)] := hD
    have hl : lv_has ls 3 [(0, .ref h), (1, .int mm), (2, .int b)] := hl
    refine lv_iconst (v := 0) hx hb dX11_isNeighbour_35 (by decide) ?_
    have hP9 := hP.sub (ws' := [(h, oX11 th aw ai ab ac hi re aP ta po en be de fa a5 sp av an ak ne aW aC ag aT aN aF), (aw, kcI cI 2179 fw)]) [0, 1] rfl
    have hD9 := hD.sub (ws' := [(h, oX11 th aw ai ab ac hi re aP ta po en be de fa a5 sp av an ak ne aW aC ag aT aN aF), (aw, kcI cI 2179 fw)]) [0, 1] (by decide) rfl
    exact W.zret (v := 0) hx hb hr (by decide) (fun t ht hW => ⟨⟨0, (), rfl, ⟨(hF1.trans rfl), (Or.inl rfl)⟩, by rw [ht]; exact hP9, va_K.moved hW.alike hK, hD9⟩, hS.F ht⟩) hS.2.2 dX11_isNeighbour_36
  refine lv_icmp_eq (tgt := 35) hx hb dX11_isNeighbour_2 (by decide) (fun c14 => ?_) (fun c14 => ?_)
  · skip
    exact hJ35 () _ _ _ ⟨(kif_t (eqI c14) rfl), hP.sub (ws' := [(h, oX11 th aw ai ab ac hi re aP ta po en be de fa a5 sp av an ak ne aW aC ag aT aN aF), (aw, kcI cI 2179 fw)]) [0, 1] rfl, hD.sub (ws' := [(h, oX11 th aw ai ab ac hi re aP ta po en be de fa a5 sp av an ak ne aW aC ag aT aN aF), (aw, kcI cI 2179 fw)]) [0, 1] (by decide) rfl, hS, lv_sub (l' := [(0, .ref h), (1, .int mm), (2, .int b)]) hl [0, 1, 2] rfl⟩
  · skip
    refine lv_aload_n hx hb dX11_isNeighbour_5 rfl (lv_at hl 0 rfl) ?_
    refine lv_iload_n hx hb dX11_isNeighbour_6 rfl (lv_at hl 1 rfl) ?_
    refine lv_iconst (v := 0) hx hb dX11_isNeighbour_7 (by decide) ?_
    refine kpurei (wc := [(h, oX11 th aw ai ab ac hi re aP ta po en be de fa a5 sp av an ak ne aW aC ag aT aN aF), (aw, kcI cI 2179 fw)]) hP hD hS hA [0, 1] rfl (by decide) (fun hPc hDc hFc => va_runV (As := [.int mm, .int 0]) (rest := []) ⟨hx, hb, hml, hown, hts⟩ (r_ofMan0 l D cI cJ cB cC h th aw ai ab ac hi re aP ta po en be de fa a5 sp av an ak ne aW aC ag aT aN aF fw mm H.size H_mm H_fw_W) (cwV 2 hts gX11_isNeighbour_X11_ofMan rfl rfl rfl ⟨rfl, hdX11_ofMan⟩ ⟨Nat.le_of_ble_eq_true rfl, Nat.le_of_ble_eq_true rfl⟩) ⟨kBlind, va_recv hK hPc (ci := 10) (q0 := 0) rfl rfl, fun U hU hW => ⟨rfl, by rw [hU], hN.warm hW, hE.pass hS hFc hW hU, by rw [hU]; exact hPc, va_K.moved hW.alike hK, hDc⟩⟩ rfl rfl hl.1 rfl (lv_room (Nat.le_of_ble_eq_true rfl)) dX11_isNeighbour_8 ⟨Nat.le_of_ble_eq_true rfl, Nat.le_of_ble_eq_true rfl⟩) (fun r15 u H locs hw hP hS => ?_)
    obtain ⟨k16, k17⟩ := hw
    refine lv_aload_n hx hb dX11_isNeighbour_11 rfl (lv_at hl 0 rfl) ?_
    refine lv_iload_n hx hb dX11_isNeighbour_12 rfl (lv_at hl 2 rfl) ?_
    refine lv_iconst (v := 0) hx hb dX11_isNeighbour_13 (by decide) ?_
    refine kpurei (wc := [(h, oX11 th aw ai ab ac hi re aP ta po en be de fa a5 sp av an ak ne aW aC ag aT aN aF), (aw, kcI cI 2179 fw)]) hP hD hS hA [0, 1] rfl (by decide) (fun hPc hDc hFc => va_runV (As := [.int b, .int 0]) (rest := [.int r15]) ⟨hx, hb, hml, hown, hts⟩ (r_ofMan0 l D cI cJ cB cC h th aw ai ab ac hi re aP ta po en be de fa a5 sp av an ak ne aW aC ag aT aN aF fw b H.size H_b H_fw_W) (cwV 2 hts gX11_isNeighbour_X11_ofMan rfl rfl rfl ⟨rfl, hdX11_ofMan⟩ ⟨Nat.le_of_ble_eq_true rfl, Nat.le_of_ble_eq_true rfl⟩) ⟨kBlind, va_recv hK hPc (ci := 10) (q0 := 0) rfl rfl, fun U hU hW => ⟨rfl, by rw [hU], hN.warm hW, hE.pass hS hFc hW hU, by rw [hU]; exact hPc, va_K.moved hW.alike hK, hDc⟩⟩ rfl rfl hl.1 rfl (lv_room (Nat.le_of_ble_eq_true rfl)) dX11_isNeighbour_14 ⟨Nat.le_of_ble_eq_true rfl, Nat.le_of_ble_eq_true rfl⟩) (fun r18 u H locs hw hP hS => ?_)
    obtain ⟨k19, k20⟩ := hw
    refine lv_isub hx hb dX11_isNeighbour_17 ?_
    refine lv_topi (fun x21 ex21 => ?_)
    refine va_mabs hx hb (by rw [hml]; exact hl.1.symm) hown (hts _ w27_15) (hts _ w26_22) (hts _ w8_7) (hts _ w26_23) (Nat.le_of_ble_eq_true rfl) (Nat.le_of_ble_eq_true rfl) (Nat.le_of_ble_eq_true rfl) (Nat.le_of_ble_eq_true rfl) dX11_isNeighbour_18 ?_
    refine lv_topi (fun x22 ex22 => ?_)
    refine lv_aload_n hx hb dX11_isNeighbour_21 rfl (lv_at hl 0 rfl) ?_
    refine va_get (D := D) (ci := 10) (v := .ref aw) (C := RX11) (T := TX11) (N := 26) hx hb hts iG_X11 hown hK hP 0 rfl rfl 1 (by decide) (hts _ w5_3) (fun _ h9 => h9) rfl dX11_isNeighbour_22 ?_
    refine lv_bipush (v := 6) hx hb dX11_isNeighbour_25 (by decide) ?_
    refine va_iald hx hb hK hP 1 0 rfl rfl (rg_in (rg_lit (n := 6) (by decide)) (by decide)) dX11_isNeighbour_27 ?_
    refine lv_topi (fun x23 ex23 => ?_)
    refine lv_icmp_gt (tgt := 35) hx hb dX11_isNeighbour_28 (by decide) (fun c24 => ?_) (fun c24 => ?_)
    · skip
      have k25 : Rg x22 (-2147483647) 2147483647 := rg_l2 (ltI c24) (rg_any x23) (rg_any x22) (by decide)
      have k26 : Rg x23 (-2147483648) 2147483646 := rg_l1 (ltI c24) (rg_any x23) (rg_any x22) (by decide)
      exact hJ35 () _ _ _ ⟨(kif_f (neI c14) (kLet_eq (k17).symm (kLet_eq (k20).symm (kLet_eq (ke_wsub ex21) (kLet_eq (ke_abs ex22) (kLet_eq (ke_ld ex23) (kif_t (ltI c24) rfl))))))), hP.sub (ws' := [(h, oX11 th aw ai ab ac hi re aP ta po en be de fa a5 sp av an ak ne aW aC ag aT aN aF), (aw, kcI cI 2179 fw)]) [0, 1] rfl, hD.sub (ws' := [(h, oX11 th aw ai ab ac hi re aP ta po en be de fa a5 sp av an ak ne aW aC ag aT aN aF), (aw, kcI cI 2179 fw)]) [0, 1] (by decide) rfl, hS, lv_sub (l' := [(0, .ref h), (1, .int mm), (2, .int b)]) hl [0, 1, 2] rfl⟩
    · skip
      refine lv_iconst (v := 1) hx hb dX11_isNeighbour_31 (by decide) ?_
      refine lv_goto (tgt := 36) hx hb dX11_isNeighbour_32 (by decide) ?_
      have hP9 := hP.sub (ws' := [(h, oX11 th aw ai ab ac hi re aP ta po en be de fa a5 sp av an ak ne aW aC ag aT aN aF), (aw, kcI cI 2179 fw)]) [0, 1] rfl
      have hD9 := hD.sub (ws' := [(h, oX11 th aw ai ab ac hi re aP ta po en be de fa a5 sp av an ak ne aW aC ag aT aN aF), (aw, kcI cI 2179 fw)]) [0, 1] (by decide) rfl
      exact W.zret (v := 1) hx hb hr (by decide) (fun t ht hW => ⟨⟨1, (), rfl, ⟨(kif_f (neI c14) (kLet_eq (k17).symm (kLet_eq (k20).symm (kLet_eq (ke_wsub ex21) (kLet_eq (ke_abs ex22) (kLet_eq (ke_ld ex23) (kif_f (xF_lt c24) rfl))))))), (Or.inr rfl)⟩, by rw [ht]; exact hP9, va_K.moved hW.alike hK, hD9⟩, hS.F ht⟩) hS.2.2 dX11_isNeighbour_36

def kwX11_isNextToLast : List Cond := .code yX11_isNextToLast cX11_isNextToLast 3 (some .boolean) :: kG
theorem hdX11_isNextToLast : yX11_isNextToLast.cls ≠ "java/lang/invoke/MethodHandle" ∧ yX11_isNextToLast.cls ≠ "java/lang/invoke/VarHandle" ∧ (parseMethodDescriptor yX11_isNextToLast.desc).map (fun d => d.parameters.length) = some 2 := by decide +kernel
theorem gX11_isNextToLast_X11_isNeighbour : GoodIn kG (wsV RX11 267 RX11 yX11_isNeighbour kwX11_isNeighbour) := gK w27_11 (gK w27_12 (gK w27_13 (gK w0_5 (gK w27_14 gGG))))
theorem gX11_isNextToLast_X11_of : GoodIn kG (wsV RX11 156 RX11 yX11_of kwX11_of) := gK w21_9 (gK w21_10 (gK w21_11 (gK w0_5 (gK w21_12 gGG))))
theorem dX11_isNextToLast_0 : decode cX11_isNextToLast 0 = .ok (.aload_n 0, 1) := by decide +kernel
theorem dX11_isNextToLast_1 : decode cX11_isNextToLast 1 = .ok (.iload_n 2, 1) := by decide +kernel
theorem dX11_isNextToLast_2 : decode cX11_isNextToLast 2 = .ok (.bipush 6, 2) := by decide +kernel
theorem dX11_isNextToLast_4 : decode cX11_isNextToLast 4 = .ok (.invokevirtual 156, 3) := by decide +kernel
theorem dX11_isNextToLast_7 : decode cX11_isNextToLast 7 = .ok (.ifCond .lt 22, 3) := by decide +kernel
theorem dX11_isNextToLast_10 : decode cX11_isNextToLast 10 = .ok (.aload_n 0, 1) := by decide +kernel
theorem dX11_isNextToLast_11 : decode cX11_isNextToLast 11 = .ok (.iload_n 1, 1) := by decide +kernel
theorem dX11_isNextToLast_12 : decode cX11_isNextToLast 12 = .ok (.aload_n 0, 1) := by decide +kernel
theorem dX11_isNextToLast_13 : decode cX11_isNextToLast 13 = .ok (.iload_n 2, 1) := by decide +kernel
theorem dX11_isNextToLast_14 : decode cX11_isNextToLast 14 = .ok (.bipush 6, 2) := by decide +kernel
theorem dX11_isNextToLast_16 : decode cX11_isNextToLast 16 = .ok (.invokevirtual 156, 3) := by decide +kernel
theorem dX11_isNextToLast_19 : decode cX11_isNextToLast 19 = .ok (.invokevirtual 267, 3) := by decide +kernel
theorem dX11_isNextToLast_22 : decode cX11_isNextToLast 22 = .ok (.ifCond .eq 7, 3) := by decide +kernel
theorem dX11_isNextToLast_25 : decode cX11_isNextToLast 25 = .ok (.iconst 1, 1) := by decide +kernel
theorem dX11_isNextToLast_26 : decode cX11_isNextToLast 26 = .ok (.goto 4, 3) := by decide +kernel
theorem dX11_isNextToLast_29 : decode cX11_isNextToLast 29 = .ok (.iconst 0, 1) := by decide +kernel
theorem dX11_isNextToLast_30 : decode cX11_isNextToLast 30 = .ok (.ireturn, 1) := by decide +kernel
set_option maxHeartbeats 4000000 in
set_option maxRecDepth 100000 in
/-- reference: isNextToLast -/
theorem r_isNextToLast (l : Launch) (D : va_G) (cI cJ cB cC : ClassId) (h : Nat) (th : Int32) (aw : Nat) (ai : Nat) (ab : Nat) (ac : Nat) (hi : Int32) (re : Int32) (aP : Nat) (ta : Int32) (po : Int32) (en : Int32) (be : Int32) (de : Int32) (fa : Int32) (a5 : Nat) (sp : Int32) (av : Nat) (an : Nat) (ak : Nat) (ne : Int32) (aW : Nat) (aC : Nat) (ag : Nat) (aT : Nat) (aN : Nat) (aF : Nat) (fw : Nat → Int32) (mm : Int32) (b : Int32) (sz : Nat) (H_mm : Rg mm 0 9) (H_b : Rg b 0 11) (H_fw_W : wW fw) : Met l yX11_isNextToLast kwX11_isNextToLast ({ frames := 2, cells := 0, slots := 0, locals := 44 } : Room) (kPre D (kT cI cJ cB cC) sz [(h, oX11 th aw ai ab ac hi re aP ta po en be de fa a5 sp av an ak ne aW aC ag aT aN aF), (aw, kcI cI 2179 fw)] [.ref h, .int mm, .int b]) (va_Qi (fun (r : Int32) (_ : Unit) => F_r_isNextToLast (gT fw) (mm : Int32).toInt (b : Int32).toInt = ((r : Int32).toInt) ∧ ((r = 0) ∨ (r = 1))) (fun (_ : Unit) (t : State) => kB D (kT cI cJ cB cC) (va_A [(h, oX11 th aw ai ab ac hi re aP ta po en be de fa a5 sp av an ak ne aW aC ag aT aN aF), (aw, kcI cI 2179 fw)] sz) [(h, oX11 th aw ai ab ac hi re aP ta po en be de fa a5 sp av an ak ne aW aC ag aT aN aF), (aw, kcI cI 2179 fw)] t) (va_A [(h, oX11 th aw ai ab ac hi re aP ta po en be de fa a5 sp av an ak ne aW aC ag aT aN aF), (aw, kcI cI 2179 fw)] sz)) 0 0 (va_A [(h, oX11 th aw ai ab ac hi re aP ta po en be de fa a5 sp av an ak ne aW aC ag aT aN aF), (aw, kcI cI 2179 fw)] sz) := by
  refine Met.ofW (cc := cX11_isNextToLast) (maxL := 3) (ret := (some .boolean)) (by decide) rfl ?_
  intro p e s m args below meth c s₁ B hml hv
  obtain ⟨rfl, hsz, hN, hE, hP, hK, hD0⟩ := hv
  have hx := B.exec
  have hb := B.bytes
  have hr := B.returns
  have hts := fun (w : Cond) (h : w ∈ kG) => atoms_spec (ws := kwX11_isNextToLast) B.pre w (List.mem_cons_of_mem _ h)
  have hown : s.vm.findClass RX11 = some m.cls := findClass_of_methodNamed B.named
  subst hsz
  have hD := hD0.self (sz := s.heap.size)
  generalize hAe : va_A [(h, oX11 th aw ai ab ac hi re aP ta po en be de fa a5 sp av an ak ne aW aC ag aT aN aF), (aw, kcI cI 2179 fw)] s.heap.size = A at hD hE ⊢
  have hA : ∀ q : Nat, s.heap.size ≤ q → A q := fun q h => by rw [← hAe]; exact Or.inr h
  have hl := lv_entry ([.ref h, .int mm, .int b]) (n := 3) (Nat.le_of_ble_eq_true rfl)
  rw [lg_entry_eq]
  generalize (lg_sl ([.ref h, .int mm, .int b]) ++ List.replicate (3 - (lg_sl ([.ref h, .int mm, .int b])).length) Slot.unset).toArray = ls at hl ⊢
  have hl : lv_has ls 3 [(0, .ref h), (1, .int mm), (2, .int b)] := hl
  obtain ⟨H, hH0⟩ : ∃ H, H = s.heap := ⟨_, rfl⟩
  have hS : va_S A s.heap H [] := by rw [hH0]; exact va_S.rf
  have hP : va_P D vwCl [(h, oX11 th aw ai ab ac hi re aP ta po en be de fa a5 sp av an ak ne aW aC ag aT aN aF), (aw, kcI cI 2179 fw)] H := by rw [hH0]; exact hP
  refine kHeap hH0 ?_
  clear hH0
  refine lv_aload_n hx hb dX11_isNextToLast_0 rfl (lv_at hl 0 rfl) ?_
  refine lv_iload_n hx hb dX11_isNextToLast_1 rfl (lv_at hl 2 rfl) ?_
  refine lv_bipush (v := 6) hx hb dX11_isNextToLast_2 (by decide) ?_
  refine kpurei (wc := [(h, oX11 th aw ai ab ac hi re aP ta po en be de fa a5 sp av an ak ne aW aC ag aT aN aF), (aw, kcI cI 2179 fw)]) hP hD hS hA [0, 1] rfl (by decide) (fun hPc hDc hFc => va_runV (As := [.int b, .int 6]) (rest := []) ⟨hx, hb, hml, hown, hts⟩ (r_of6 l D cI cJ cB cC h th aw ai ab ac hi re aP ta po en be de fa a5 sp av an ak ne aW aC ag aT aN aF fw b H.size H_b H_fw_W) (cwV 2 hts gX11_isNextToLast_X11_of rfl rfl rfl ⟨rfl, hdX11_of⟩ ⟨Nat.le_of_ble_eq_true rfl, Nat.le_of_ble_eq_true rfl⟩) ⟨kBlind, va_recv hK hPc (ci := 10) (q0 := 0) rfl rfl, fun U hU hW => ⟨rfl, by rw [hU], hN.warm hW, hE.pass hS hFc hW hU, by rw [hU]; exact hPc, va_K.moved hW.alike hK, hDc⟩⟩ rfl rfl hl.1 rfl (lv_room (Nat.le_of_ble_eq_true rfl)) dX11_isNextToLast_4 ⟨Nat.le_of_ble_eq_true rfl, Nat.le_of_ble_eq_true rfl⟩) (fun r1 u H locs hw hP hS => ?_)
  obtain ⟨k2, k3, k4⟩ := hw
  refine k_join (hd := 29) (cells2 := 0) (slots2 := 0) (fun (_ : Unit) => []) (fun (_ : Unit) (H : Heap) (locs : List Loc) (ls : Array Slot) => (F_r_isNextToLast (gT fw) mm.toInt b.toInt = F_r_isNextToLast_j1) ∧ va_P D vwCl [(h, oX11 th aw ai ab ac hi re aP ta po en be de fa a5 sp av an ak ne aW aC ag aT aN aF), (aw, kcI cI 2179 fw)] H ∧ va_D A [(h, oX11 th aw ai ab ac hi re aP ta po en be de fa a5 sp av an ak ne aW aC ag aT aN aF), (aw, kcI cI 2179 fw)] ∧ va_S A s.heap H locs ∧ lv_has ls 3 [(0, .ref h), (1, .int mm), (2, .int b)]) (fun u H locs ls hI => ?_) (fun hJ29 => ?_)
  · skip
    clear hP hD hS hl
    obtain ⟨hF1, hP, hD, hS, hl⟩ := hI
    have hP : va_P D vwCl [(h, oX11 th aw ai ab ac hi re aP ta po en be de fa a5 sp av an ak ne aW aC ag aT aN aF), (aw, kcI cI 2179 fw)] H := hP
    have hD : va_D A [(h, oX11 th aw ai ab ac hi re aP ta po en be de fa a5 sp av an ak ne aW aC ag aT aN aF), (aw, kcI cI 2179 fw)] := hD
    have hl : lv_has ls 3 [(0, .ref h), (1, .int mm), (2, .int b)] := hl
    refine lv_iconst (v := 0) hx hb dX11_isNextToLast_29 (by decide) ?_
    have hP9 := hP.sub (ws' := [(h, oX11 th aw ai ab ac hi re aP ta po en be de fa a5 sp av an ak ne aW aC ag aT aN aF), (aw, kcI cI 2179 fw)]) [0, 1] rfl
    have hD9 := hD.sub (ws' := [(h, oX11 th aw ai ab ac hi re aP ta po en be de fa a5 sp av an ak ne aW aC ag aT aN aF), (aw, kcI cI 2179 fw)]) [0, 1] (by decide) rfl
    exact W.zret (v := 0) hx hb hr (by decide) (fun t ht hW => ⟨⟨0, (), rfl, ⟨(hF1.trans rfl), (Or.inl rfl)⟩, by rw [ht]; exact hP9, va_K.moved hW.alike hK, hD9⟩, hS.F ht⟩) hS.2.2 dX11_isNextToLast_30
  refine lv_if_lt (tgt := 29) hx hb dX11_isNextToLast_7 (by decide) (fun c17 => ?_) (fun c17 => ?_)
  · skip
    have k18 : Rg r1 (-1) (-1) := rg_l1 (ltI c17) k3 (rg_lit (n := 0) (by decide)) (by decide)
    exact hJ29 () _ _ _ ⟨(kLet_eq (k4).symm (kif_t (ltI c17) rfl)), hP.sub (ws' := [(h, oX11 th aw ai ab ac hi re aP ta po en be de fa a5 sp av an ak ne aW aC ag aT aN aF), (aw, kcI cI 2179 fw)]) [0, 1] rfl, hD.sub (ws' := [(h, oX11 th aw ai ab ac hi re aP ta po en be de fa a5 sp av an ak ne aW aC ag aT aN aF), (aw, kcI cI 2179 fw)]) [0, 1] (by decide) rfl, hS, lv_sub (l' := [(0, .ref h), (1, .int mm), (2, .int b)]) hl [0, 1, 2] rfl⟩
  · skip
    have k19 : Rg r1 0 9 := rg_e2 (nltI c17) (rg_lit (n := 0) (by decide)) k3 (by decide)
    refine lv_aload_n hx hb dX11_isNextToLast_10 rfl (lv_at hl 0 rfl) ?_
    refine lv_iload_n hx hb dX11_isNextToLast_11 rfl (lv_at hl 1 rfl) ?_
    refine lv_aload_n hx hb dX11_isNextToLast_12 rfl (lv_at hl 0 rfl) ?_
    refine lv_iload_n hx hb dX11_isNextToLast_13 rfl (lv_at hl 2 rfl) ?_
    refine lv_bipush (v := 6) hx hb dX11_isNextToLast_14 (by decide) ?_
    refine kpurei (wc := [(h, oX11 th aw ai ab ac hi re aP ta po en be de fa a5 sp av an ak ne aW aC ag aT aN aF), (aw, kcI cI 2179 fw)]) hP hD hS hA [0, 1] rfl (by decide) (fun hPc hDc hFc => va_runV (As := [.int b, .int 6]) (rest := [.int mm, .ref h]) ⟨hx, hb, hml, hown, hts⟩ (r_of6 l D cI cJ cB cC h th aw ai ab ac hi re aP ta po en be de fa a5 sp av an ak ne aW aC ag aT aN aF fw b H.size H_b H_fw_W) (cwV 2 hts gX11_isNextToLast_X11_of rfl rfl rfl ⟨rfl, hdX11_of⟩ ⟨Nat.le_of_ble_eq_true rfl, Nat.le_of_ble_eq_true rfl⟩) ⟨kBlind, va_recv hK hPc (ci := 10) (q0 := 0) rfl rfl, fun U hU hW => ⟨rfl, by rw [hU], hN.warm hW, hE.pass hS hFc hW hU, by rw [hU]; exact hPc, va_K.moved hW.alike hK, hDc⟩⟩ rfl rfl hl.1 rfl (lv_room (Nat.le_of_ble_eq_true rfl)) dX11_isNextToLast_16 ⟨Nat.le_of_ble_eq_true rfl, Nat.le_of_ble_eq_true rfl⟩) (fun r20 u H locs hw hP hS => ?_)
    obtain ⟨k21, k22, k23⟩ := hw
    obtain rfl : r1 = r20 := k2.trans k21.symm
    refine kpurei (wc := [(h, oX11 th aw ai ab ac hi re aP ta po en be de fa a5 sp av an ak ne aW aC ag aT aN aF), (aw, kcI cI 2179 fw)]) hP hD hS hA [0, 1] rfl (by decide) (fun hPc hDc hFc => va_runV (As := [.int mm, .int r1]) (rest := []) ⟨hx, hb, hml, hown, hts⟩ (r_isNeighbour l D cI cJ cB cC h th aw ai ab ac hi re aP ta po en be de fa a5 sp av an ak ne aW aC ag aT aN aF fw mm r1 H.size H_mm k19 H_fw_W) (cwV 2 hts gX11_isNextToLast_X11_isNeighbour rfl rfl rfl ⟨rfl, hdX11_isNeighbour⟩ ⟨Nat.le_of_ble_eq_true rfl, Nat.le_of_ble_eq_true rfl⟩) ⟨kBlind, va_recv hK hPc (ci := 10) (q0 := 0) rfl rfl, fun U hU hW => ⟨rfl, by rw [hU], hN.warm hW, hE.pass hS hFc hW hU, by rw [hU]; exact hPc, va_K.moved hW.alike hK, hDc⟩⟩ rfl rfl hl.1 rfl (lv_room (Nat.le_of_ble_eq_true rfl)) dX11_isNextToLast_19 ⟨Nat.le_of_ble_eq_true rfl, Nat.le_of_ble_eq_true rfl⟩) (fun r24 u H locs hw hP hS => ?_)
    obtain ⟨k25, hw⟩ := hw
    rcases hw with rfl | rfl
    · skip
      refine lv_if_eq (tgt := 29) hx hb dX11_isNextToLast_22 (by decide) (fun _ => ?_) (fun c27 => absurd (by decide) c27)
      exact hJ29 () _ _ _ ⟨(kLet_eq (k4).symm (kif_f (xF_lt c17) (kLet_eq (k23).symm (kLet_eq (k25).symm (kif_t rfl rfl))))), hP.sub (ws' := [(h, oX11 th aw ai ab ac hi re aP ta po en be de fa a5 sp av an ak ne aW aC ag aT aN aF), (aw, kcI cI 2179 fw)]) [0, 1] rfl, hD.sub (ws' := [(h, oX11 th aw ai ab ac hi re aP ta po en be de fa a5 sp av an ak ne aW aC ag aT aN aF), (aw, kcI cI 2179 fw)]) [0, 1] (by decide) rfl, hS, lv_sub (l' := [(0, .ref h), (1, .int mm), (2, .int b)]) hl [0, 1, 2] rfl⟩
    · skip
      refine lv_if_eq (tgt := 29) hx hb dX11_isNextToLast_22 (by decide) (fun c28 => absurd c28 (by decide)) (fun _ => ?_)
      refine lv_iconst (v := 1) hx hb dX11_isNextToLast_25 (by decide) ?_
      refine lv_goto (tgt := 30) hx hb dX11_isNextToLast_26 (by decide) ?_
      have hP9 := hP.sub (ws' := [(h, oX11 th aw ai ab ac hi re aP ta po en be de fa a5 sp av an ak ne aW aC ag aT aN aF), (aw, kcI cI 2179 fw)]) [0, 1] rfl
      have hD9 := hD.sub (ws' := [(h, oX11 th aw ai ab ac hi re aP ta po en be de fa a5 sp av an ak ne aW aC ag aT aN aF), (aw, kcI cI 2179 fw)]) [0, 1] (by decide) rfl
      exact W.zret (v := 1) hx hb hr (by decide) (fun t ht hW => ⟨⟨1, (), rfl, ⟨(kLet_eq (k4).symm (kif_f (xF_lt c17) (kLet_eq (k23).symm (kLet_eq (k25).symm (kif_f (by decide) rfl))))), (Or.inr rfl)⟩, by rw [ht]; exact hP9, va_K.moved hW.alike hK, hD9⟩, hS.F ht⟩) hS.2.2 dX11_isNextToLast_30

def kwX11_man : List Cond := .code yX11_man cX11_man 5 (some .int) :: kG
theorem hdX11_man : yX11_man.cls ≠ "java/lang/invoke/MethodHandle" ∧ yX11_man.cls ≠ "java/lang/invoke/VarHandle" ∧ (parseMethodDescriptor yX11_man.desc).map (fun d => d.parameters.length) = some 2 := by decide +kernel
theorem gX11_man_X11_in : GoodIn kG (va_wsS RX11 75 yX11_in kwX11_in) := gK w27_8 (gK w27_9 (gK w0_5 (gK w27_10 gGG)))
theorem gX11_man_X11_isNeighbour : GoodIn kG (wsV RX11 267 RX11 yX11_isNeighbour kwX11_isNeighbour) := gK w27_11 (gK w27_12 (gK w27_13 (gK w0_5 (gK w27_14 gGG))))
theorem gX11_man_X11_men : GoodIn kG (wsV RX11 71 RX11 yX11_men kwX11_men) := gK w19_17 (gK w19_18 (gK w19_19 (gK w0_5 (gK w19_20 gGG))))
theorem gX11_man_X11_noMan : GoodIn kG (wsV RX11 280 RX11 yX11_noMan kwX11_noMan) := gK w27_4 (gK w27_5 (gK w27_6 (gK w0_5 (gK w27_7 gGG))))
theorem gX11_man_X11_ofMan : GoodIn kG (wsV RX11 153 RX11 yX11_ofMan kwX11_ofMan) := gK w21_5 (gK w21_6 (gK w21_7 (gK w0_5 (gK w21_8 gGG))))
theorem gX11_man_X11_throwsIf : GoodIn kG (wsV RX11 258 RX11 yX11_throwsIf kwX11_throwsIf) := gK w23_6 (gK w23_7 (gK w23_8 (gK w0_5 (gK w23_9 gGG))))
theorem dX11_man_0 : decode cX11_man 0 = .ok (.aload_n 0, 1) := by decide +kernel
theorem dX11_man_1 : decode cX11_man 1 = .ok (.iconst 0, 1) := by decide +kernel
theorem dX11_man_2 : decode cX11_man 2 = .ok (.putfield 3, 3) := by decide +kernel
theorem dX11_man_5 : decode cX11_man 5 = .ok (.aload_n 0, 1) := by decide +kernel
theorem dX11_man_6 : decode cX11_man 6 = .ok (.aload_n 0, 1) := by decide +kernel
theorem dX11_man_7 : decode cX11_man 7 = .ok (.iload_n 1, 1) := by decide +kernel
theorem dX11_man_8 : decode cX11_man 8 = .ok (.invokevirtual 280, 3) := by decide +kernel
theorem dX11_man_11 : decode cX11_man 11 = .ok (.iconst 1, 1) := by decide +kernel
theorem dX11_man_12 : decode cX11_man 12 = .ok (.invokevirtual 258, 3) := by decide +kernel
theorem dX11_man_15 : decode cX11_man 15 = .ok (.ifCond .ne 25, 3) := by decide +kernel
theorem dX11_man_18 : decode cX11_man 18 = .ok (.aload_n 0, 1) := by decide +kernel
theorem dX11_man_19 : decode cX11_man 19 = .ok (.iload_n 2, 1) := by decide +kernel
theorem dX11_man_20 : decode cX11_man 20 = .ok (.iconst 0, 1) := by decide +kernel
theorem dX11_man_21 : decode cX11_man 21 = .ok (.iconst 5, 1) := by decide +kernel
theorem dX11_man_22 : decode cX11_man 22 = .ok (.invokestatic 75, 3) := by decide +kernel
theorem dX11_man_25 : decode cX11_man 25 = .ok (.ifCond .ne 7, 3) := by decide +kernel
theorem dX11_man_28 : decode cX11_man 28 = .ok (.iconst 1, 1) := by decide +kernel
theorem dX11_man_29 : decode cX11_man 29 = .ok (.goto 4, 3) := by decide +kernel
theorem dX11_man_32 : decode cX11_man 32 = .ok (.iconst 0, 1) := by decide +kernel
theorem dX11_man_33 : decode cX11_man 33 = .ok (.iconst 2, 1) := by decide +kernel
theorem dX11_man_34 : decode cX11_man 34 = .ok (.invokevirtual 258, 3) := by decide +kernel
theorem dX11_man_37 : decode cX11_man 37 = .ok (.ifCond .eq 5, 3) := by decide +kernel
theorem dX11_man_40 : decode cX11_man 40 = .ok (.iconst 0, 1) := by decide +kernel
theorem dX11_man_41 : decode cX11_man 41 = .ok (.ireturn, 1) := by decide +kernel
theorem dX11_man_42 : decode cX11_man 42 = .ok (.iload_n 2, 1) := by decide +kernel
theorem dX11_man_43 : decode cX11_man 43 = .ok (.iconst 5, 1) := by decide +kernel
theorem dX11_man_44 : decode cX11_man 44 = .ok (.if_icmp .ge 10, 3) := by decide +kernel
theorem dX11_man_47 : decode cX11_man 47 = .ok (.aload_n 0, 1) := by decide +kernel
theorem dX11_man_48 : decode cX11_man 48 = .ok (.iload_n 1, 1) := by decide +kernel
theorem dX11_man_49 : decode cX11_man 49 = .ok (.iload_n 2, 1) := by decide +kernel
theorem dX11_man_50 : decode cX11_man 50 = .ok (.invokevirtual 153, 3) := by decide +kernel
theorem dX11_man_53 : decode cX11_man 53 = .ok (.ireturn, 1) := by decide +kernel
theorem dX11_man_54 : decode cX11_man 54 = .ok (.iconst 0, 1) := by decide +kernel
theorem dX11_man_55 : decode cX11_man 55 = .ok (.istore_n 3, 1) := by decide +kernel
theorem dX11_man_56 : decode cX11_man 56 = .ok (.iconst 0, 1) := by decide +kernel
theorem dX11_man_57 : decode cX11_man 57 = .ok (.istore 4, 2) := by decide +kernel
theorem dX11_man_59 : decode cX11_man 59 = .ok (.iload 4, 2) := by decide +kernel
theorem dX11_man_61 : decode cX11_man 61 = .ok (.aload_n 0, 1) := by decide +kernel
theorem dX11_man_62 : decode cX11_man 62 = .ok (.invokevirtual 71, 3) := by decide +kernel
theorem dX11_man_65 : decode cX11_man 65 = .ok (.if_icmp .ge 30, 3) := by decide +kernel
theorem dX11_man_68 : decode cX11_man 68 = .ok (.iload_n 3, 1) := by decide +kernel
theorem dX11_man_69 : decode cX11_man 69 = .ok (.aload_n 0, 1) := by decide +kernel
theorem dX11_man_70 : decode cX11_man 70 = .ok (.iload_n 1, 1) := by decide +kernel
theorem dX11_man_71 : decode cX11_man 71 = .ok (.iload 4, 2) := by decide +kernel
theorem dX11_man_73 : decode cX11_man 73 = .ok (.invokevirtual 267, 3) := by decide +kernel
theorem dX11_man_76 : decode cX11_man 76 = .ok (.ifCond .eq 10, 3) := by decide +kernel
theorem dX11_man_79 : decode cX11_man 79 = .ok (.iconst 1, 1) := by decide +kernel
theorem dX11_man_80 : decode cX11_man 80 = .ok (.iload 4, 2) := by decide +kernel
theorem dX11_man_82 : decode cX11_man 82 = .ok (.ishl, 1) := by decide +kernel
theorem dX11_man_83 : decode cX11_man 83 = .ok (.goto 4, 3) := by decide +kernel
theorem dX11_man_86 : decode cX11_man 86 = .ok (.iconst 0, 1) := by decide +kernel
theorem dX11_man_87 : decode cX11_man 87 = .ok (.ior, 1) := by decide +kernel
theorem dX11_man_88 : decode cX11_man 88 = .ok (.istore_n 3, 1) := by decide +kernel
theorem dX11_man_89 : decode cX11_man 89 = .ok (.iinc 4 1, 3) := by decide +kernel
theorem dX11_man_92 : decode cX11_man 92 = .ok (.goto (-33), 3) := by decide +kernel
theorem dX11_man_95 : decode cX11_man 95 = .ok (.iload_n 3, 1) := by decide +kernel
theorem dX11_man_96 : decode cX11_man 96 = .ok (.ireturn, 1) := by decide +kernel
set_option maxHeartbeats 4000000 in
set_option maxRecDepth 100000 in
/-- reference: man -/
theorem r_man (l : Launch) (D : va_G) (cI cJ cB cC : ClassId) (h : Nat) (th : Int32) (aw : Nat) (ai : Nat) (ab : Nat) (ac : Nat) (hi : Int32) (re : Int32) (aP : Nat) (ta : Int32) (po : Int32) (en : Int32) (be : Int32) (de : Int32) (fa : Int32) (a5 : Nat) (sp : Int32) (av : Nat) (an : Nat) (ak : Nat) (ne : Int32) (aW : Nat) (aC : Nat) (ag : Nat) (aT : Nat) (aN : Nat) (aF : Nat) (fw : Nat → Int32) (mm : Int32) (b : Int32) (sz : Nat) (H_fw_W : wW fw) : Met l yX11_man kwX11_man ({ frames := 2, cells := 0, slots := 0, locals := 44 } : Room) (kPre D (kT cI cJ cB cC) sz [(h, oX11 th aw ai ab ac hi re aP ta po en be de fa a5 sp av an ak ne aW aC ag aT aN aF), (aw, kcI cI 2179 fw)] [.ref h, .int mm, .int b]) (va_Qi (fun (r : Int32) (n0_ : Int32) => F_r_man (gT fw) (mm : Int32).toInt (b : Int32).toInt = ((r : Int32).toInt, (n0_ : Int32).toInt)) (fun (n0_ : Int32) (t : State) => kB D (kT cI cJ cB cC) (va_A [(h, oX11 th aw ai ab ac hi re aP ta po en be de fa a5 sp av an ak ne aW aC ag aT aN aF), (aw, kcI cI 2179 fw)] sz) [(h, oX11 n0_ aw ai ab ac hi re aP ta po en be de fa a5 sp av an ak ne aW aC ag aT aN aF), (aw, kcI cI 2179 fw)] t) (va_A [(h, oX11 th aw ai ab ac hi re aP ta po en be de fa a5 sp av an ak ne aW aC ag aT aN aF), (aw, kcI cI 2179 fw)] sz)) 0 0 (va_A [(h, oX11 th aw ai ab ac hi re aP ta po en be de fa a5 sp av an ak ne aW aC ag aT aN aF), (aw, kcI cI 2179 fw)] sz) := by
  refine Met.ofW (cc := cX11_man) (maxL := 5) (ret := (some .int)) (by decide) rfl ?_
  intro p e s m args below meth c s₁ B hml hv
  obtain ⟨rfl, hsz, hN, hE, hP, hK, hD0⟩ := hv
  have hx := B.exec
  have hb := B.bytes
  have hr := B.returns
  have hts := fun (w : Cond) (h : w ∈ kG) => atoms_spec (ws := kwX11_man) B.pre w (List.mem_cons_of_mem _ h)
  have hown : s.vm.findClass RX11 = some m.cls := findClass_of_methodNamed B.named
  subst hsz
  have hD := hD0.self (sz := s.heap.size)
  generalize hAe : va_A [(h, oX11 th aw ai ab ac hi re aP ta po en be de fa a5 sp av an ak ne aW aC ag aT aN aF), (aw, kcI cI 2179 fw)] s.heap.size = A at hD hE ⊢
  have hA : ∀ q : Nat, s.heap.size ≤ q → A q := fun q h => by rw [← hAe]; exact Or.inr h
  have hl := lv_entry ([.ref h, .int mm, .int b]) (n := 5) (Nat.le_of_ble_eq_true rfl)
  rw [lg_entry_eq]
  generalize (lg_sl ([.ref h, .int mm, .int b]) ++ List.replicate (5 - (lg_sl ([.ref h, .int mm, .int b])).length) Slot.unset).toArray = ls at hl ⊢
  have hl : lv_has ls 5 [(0, .ref h), (1, .int mm), (2, .int b)] := hl
  obtain ⟨H, hH0⟩ : ∃ H, H = s.heap := ⟨_, rfl⟩
  have hS : va_S A s.heap H [] := by rw [hH0]; exact va_S.rf
  have hP : va_P D vwCl [(h, oX11 th aw ai ab ac hi re aP ta po en be de fa a5 sp av an ak ne aW aC ag aT aN aF), (aw, kcI cI 2179 fw)] H := by rw [hH0]; exact hP
  refine kHeap hH0 ?_
  clear hH0
  refine lv_aload_n hx hb dX11_man_0 rfl (lv_at hl 0 rfl) ?_
  refine lv_iconst (v := 0) hx hb dX11_man_1 (by decide) ?_
  refine va_put (D := D) (ci := 10) (v := .int 0) (ty := .int) (C := RX11) (T := TX11) (N := 26) hx hb hts iG_X11 tyX11 tyX11_ok nmX11 hown hK hP hD hS 0 rfl rfl 0 (by decide) (hts _ w6_8) (fun _ h9 => h9) rfl (by decide +kernel) rfl rfl (Nat.le_of_ble_eq_true rfl) dX11_man_2 (fun H locs hP hD hS => ?_)
  have hP : va_P D vwCl [(h, oX11 0 aw ai ab ac hi re aP ta po en be de fa a5 sp av an ak ne aW aC ag aT aN aF), (aw, kcI cI 2179 fw)] H := hP
  have hD : va_D A [(h, oX11 0 aw ai ab ac hi re aP ta po en be de fa a5 sp av an ak ne aW aC ag aT aN aF), (aw, kcI cI 2179 fw)] := hD
  refine lv_aload_n hx hb dX11_man_5 rfl (lv_at hl 0 rfl) ?_
  refine lv_aload_n hx hb dX11_man_6 rfl (lv_at hl 0 rfl) ?_
  refine lv_iload_n hx hb dX11_man_7 rfl (lv_at hl 1 rfl) ?_
  refine kpurei (wc := [(h, oX11 0 aw ai ab ac hi re aP ta po en be de fa a5 sp av an ak ne aW aC ag aT aN aF), (aw, kcI cI 2179 fw)]) hP hD hS hA [0, 1] rfl (by decide) (fun hPc hDc hFc => va_runV (As := [.int mm]) (rest := [.ref h]) ⟨hx, hb, hml, hown, hts⟩ (r_noMan l D cI cJ cB cC h 0 aw ai ab ac hi re aP ta po en be de fa a5 sp av an ak ne aW aC ag aT aN aF fw mm H.size H_fw_W) (cwV 1 hts gX11_man_X11_noMan rfl rfl rfl ⟨rfl, hdX11_noMan⟩ ⟨Nat.le_of_ble_eq_true rfl, Nat.le_of_ble_eq_true rfl⟩) ⟨kBlind, va_recv hK hPc (ci := 10) (q0 := 0) rfl rfl, fun U hU hW => ⟨rfl, by rw [hU], hN.warm hW, hE.pass hS hFc hW hU, by rw [hU]; exact hPc, va_K.moved hW.alike hK, hDc⟩⟩ rfl rfl hl.1 rfl (lv_room (Nat.le_of_ble_eq_true rfl)) dX11_man_8 ⟨Nat.le_of_ble_eq_true rfl, Nat.le_of_ble_eq_true rfl⟩) (fun r1 u H locs hw hP hS => ?_)
  obtain ⟨k2, hw⟩ := hw
  rcases hw with ⟨rfl, kc3_0, kc3_1⟩ | rfl
  · skip
    refine lv_iconst (v := 1) hx hb dX11_man_11 (by decide) ?_
    refine kpurei (wc := [(h, oX11 0 aw ai ab ac hi re aP ta po en be de fa a5 sp av an ak ne aW aC ag aT aN aF)]) hP hD hS hA [0] rfl (by decide) (fun hPc hDc hFc => va_runV (As := [.int 0, .int 1]) (rest := []) ⟨hx, hb, hml, hown, hts⟩ (r_throwsIf0_1 l D cI cJ cB cC h 0 aw ai ab ac hi re aP ta po en be de fa a5 sp av an ak ne aW aC ag aT aN aF 1 H.size) (cwV 2 hts gX11_man_X11_throwsIf rfl rfl rfl ⟨rfl, hdX11_throwsIf⟩ ⟨Nat.le_of_ble_eq_true rfl, Nat.le_of_ble_eq_true rfl⟩) ⟨kBlind, va_recv hK hPc (ci := 10) (q0 := 0) rfl rfl, fun U hU hW => ⟨rfl, by rw [hU], hN.warm hW, hE.pass hS hFc hW hU, by rw [hU]; exact hPc, va_K.moved hW.alike hK, hDc⟩⟩ rfl rfl hl.1 rfl (lv_room (Nat.le_of_ble_eq_true rfl)) dX11_man_12 ⟨Nat.le_of_ble_eq_true rfl, Nat.le_of_ble_eq_true rfl⟩) (fun r4 u H locs hw hP hS => ?_)
    obtain ⟨k5, k6⟩ := hw
    refine lv_if_ne (tgt := 40) hx hb dX11_man_15 (by decide) (fun c423 => absurd (rg_eq k5 (rg_lit (n := 0) (by decide)) (by decide)) c423) (fun _ => ?_)
    refine lv_aload_n hx hb dX11_man_18 rfl (lv_at hl 0 rfl) ?_
    refine lv_iload_n hx hb dX11_man_19 rfl (lv_at hl 2 rfl) ?_
    refine lv_iconst (v := 0) hx hb dX11_man_20 (by decide) ?_
    refine lv_iconst (v := 5) hx hb dX11_man_21 (by decide) ?_
    refine kpurei (wc := []) hP hD hS hA [] rfl (by decide) (fun hPc hDc hFc => va_runS (As := [.int b, .int 0, .int 5]) (rest := [.ref h]) ⟨hx, hb, hml, hown, hts⟩ (r_in_0_5 l D cI cJ cB cC b H.size) (va_cwS 3 hts gX11_man_X11_in rfl rfl rfl hdX11_in ⟨Nat.le_of_ble_eq_true rfl, Nat.le_of_ble_eq_true rfl⟩) ⟨kBlind, fun U hU hW => ⟨rfl, by rw [hU], hN.warm hW, hE.pass hS hFc hW hU, by rw [hU]; exact hPc, va_K.moved hW.alike hK, hDc⟩⟩ rfl rfl hl.1 rfl (lv_room (Nat.le_of_ble_eq_true rfl)) dX11_man_22 ⟨Nat.le_of_ble_eq_true rfl, Nat.le_of_ble_eq_true rfl⟩) (fun r424 u H locs hw hP hS => ?_)
    obtain ⟨k425, hw⟩ := hw
    rcases hw with rfl | ⟨rfl, kc426_0⟩
    · skip
      refine lv_if_ne (tgt := 32) hx hb dX11_man_25 (by decide) (fun c428 => absurd (by decide) c428) (fun _ => ?_)
      refine lv_iconst (v := 1) hx hb dX11_man_28 (by decide) ?_
      refine lv_goto (tgt := 33) hx hb dX11_man_29 (by decide) ?_
      refine lv_iconst (v := 2) hx hb dX11_man_33 (by decide) ?_
      refine kcalli (wc := [(h, oX11 0 aw ai ab ac hi re aP ta po en be de fa a5 sp av an ak ne aW aC ag aT aN aF)]) (wr := [(aw, kcI cI 2179 fw)]) hP hD hS hA [0] [1] rfl rfl (by decide) (by decide) (by decide) (fun hPc hDc hFc => va_runV (As := [.int 1, .int 2]) (rest := []) ⟨hx, hb, hml, hown, hts⟩ (r_throwsIf1_1 l D cI cJ cB cC h 0 aw ai ab ac hi re aP ta po en be de fa a5 sp av an ak ne aW aC ag aT aN aF 2 H.size) (cwV 2 hts gX11_man_X11_throwsIf rfl rfl rfl ⟨rfl, hdX11_throwsIf⟩ ⟨Nat.le_of_ble_eq_true rfl, Nat.le_of_ble_eq_true rfl⟩) ⟨kBlind, va_recv hK hPc (ci := 10) (q0 := 0) rfl rfl, fun U hU hW => ⟨rfl, by rw [hU], hN.warm hW, hE.pass hS hFc hW hU, by rw [hU]; exact hPc, va_K.moved hW.alike hK, hDc⟩⟩ rfl rfl hl.1 rfl (lv_room (Nat.le_of_ble_eq_true rfl)) dX11_man_34 ⟨Nat.le_of_ble_eq_true rfl, Nat.le_of_ble_eq_true rfl⟩) (fun r429 u H locs hw hP hD hS => ?_)
      obtain ⟨x430, rfl⟩ : ∃ z, z = u := ⟨_, rfl⟩
      have hP : va_P D vwCl [(aw, kcI cI 2179 fw), (h, oX11 x430 aw ai ab ac hi re aP ta po en be de fa a5 sp av an ak ne aW aC ag aT aN aF)] H := hP
      have hD : va_D A [(aw, kcI cI 2179 fw), (h, oX11 x430 aw ai ab ac hi re aP ta po en be de fa a5 sp av an ak ne aW aC ag aT aN aF)] := hD
      obtain ⟨k431, k432⟩ := hw
      refine lv_if_eq (tgt := 42) hx hb dX11_man_37 (by decide) (fun c433 => absurd c433 (rg_neq k431 (rg_lit (n := 0) (by decide)) (by decide))) (fun _ => ?_)
      refine lv_iconst (v := 0) hx hb dX11_man_40 (by decide) ?_
      have hP9 := hP.sub (ws' := [(h, oX11 x430 aw ai ab ac hi re aP ta po en be de fa a5 sp av an ak ne aW aC ag aT aN aF), (aw, kcI cI 2179 fw)]) [1, 0] rfl
      have hD9 := hD.sub (ws' := [(h, oX11 x430 aw ai ab ac hi re aP ta po en be de fa a5 sp av an ak ne aW aC ag aT aN aF), (aw, kcI cI 2179 fw)]) [1, 0] (by decide) rfl
      exact W.iret (v := 0) hx hb hr (fun t ht hW => ⟨⟨0, (x430), rfl, (kLet_eq (k2).symm (kif_t rfl (kLet_eq (k6).symm (kLet_eq (k425).symm (kif_t rfl (kC_eq k432 rfl)))))), by rw [ht]; exact hP9, va_K.moved hW.alike hK, hD9⟩, hS.F ht⟩) hS.2.2 dX11_man_41
    · skip
      refine lv_if_ne (tgt := 32) hx hb dX11_man_25 (by decide) (fun _ => ?_) (fun c435 => absurd c435 (by decide))
      refine lv_iconst (v := 0) hx hb dX11_man_32 (by decide) ?_
      refine lv_iconst (v := 2) hx hb dX11_man_33 (by decide) ?_
      refine kpurei (wc := [(h, oX11 0 aw ai ab ac hi re aP ta po en be de fa a5 sp av an ak ne aW aC ag aT aN aF)]) hP hD hS hA [0] rfl (by decide) (fun hPc hDc hFc => va_runV (As := [.int 0, .int 2]) (rest := []) ⟨hx, hb, hml, hown, hts⟩ (r_throwsIf0_1 l D cI cJ cB cC h 0 aw ai ab ac hi re aP ta po en be de fa a5 sp av an ak ne aW aC ag aT aN aF 2 H.size) (cwV 2 hts gX11_man_X11_throwsIf rfl rfl rfl ⟨rfl, hdX11_throwsIf⟩ ⟨Nat.le_of_ble_eq_true rfl, Nat.le_of_ble_eq_true rfl⟩) ⟨kBlind, va_recv hK hPc (ci := 10) (q0 := 0) rfl rfl, fun U hU hW => ⟨rfl, by rw [hU], hN.warm hW, hE.pass hS hFc hW hU, by rw [hU]; exact hPc, va_K.moved hW.alike hK, hDc⟩⟩ rfl rfl hl.1 rfl (lv_room (Nat.le_of_ble_eq_true rfl)) dX11_man_34 ⟨Nat.le_of_ble_eq_true rfl, Nat.le_of_ble_eq_true rfl⟩) (fun r436 u H locs hw hP hS => ?_)
      obtain ⟨k437, k438⟩ := hw
      refine lv_if_eq (tgt := 42) hx hb dX11_man_37 (by decide) (fun _ => ?_) (fun c439 => absurd (rg_eq k437 (rg_lit (n := 0) (by decide)) (by decide)) c439)
      refine lv_iload_n hx hb dX11_man_42 rfl (lv_at hl 2 rfl) ?_
      refine lv_iconst (v := 5) hx hb dX11_man_43 (by decide) ?_
      refine lv_icmp_ge (tgt := 54) hx hb dX11_man_44 (by decide) (fun c440 => ?_) (fun c440 => ?_)
      · skip
        have k441 : Rg b 5 5 := rg_e2 (leI c440) (rg_lit (n := 5) (by decide)) kc426_0 (by decide)
        refine lv_iconst (v := 0) hx hb dX11_man_54 (by decide) ?_
        refine lv_istore_n (lv' := [(3, .int 0), (0, .ref h), (1, .int mm), (2, .int b)]) hx hb dX11_man_55 rfl hl (by decide) rfl (fun ls hl => ?_)
        refine lv_iconst (v := 0) hx hb dX11_man_56 (by decide) ?_
        refine lv_istore (lv' := [(4, .int 0), (3, .int 0), (0, .ref h), (1, .int mm), (2, .int b)]) hx hb dX11_man_57 hl (by decide) rfl (fun ls hl => ?_)
        refine k_loop (hd := 59) (fun (u : Int32 × Int32) => match u with | (y814, y815) => (10 - (y814).toInt).toNat) (fun (u : Int32 × Int32) (H : Heap) (locs : List Loc) (ls : Array Slot) => match u with | (y814, y815) => (F_r_man (gT fw) mm.toInt b.toInt = F_r_man_l1 (gT fw) mm.toInt (y814.toInt, y815.toInt)) ∧ Rg y814 0 10 ∧ Rg y815 0 1023 ∧ va_P D vwCl [(h, oX11 0 aw ai ab ac hi re aP ta po en be de fa a5 sp av an ak ne aW aC ag aT aN aF), (aw, kcI cI 2179 fw)] H ∧ va_D A [(h, oX11 0 aw ai ab ac hi re aP ta po en be de fa a5 sp av an ak ne aW aC ag aT aN aF), (aw, kcI cI 2179 fw)] ∧ va_S A s.heap H locs ∧ lv_has ls 5 [(4, .int y814), (3, .int y815), (0, .ref h), (1, .int mm), (2, .int b)]) ((0 : Int32), (0 : Int32)) ⟨(kLet_eq (k2).symm (kif_t rfl (kLet_eq (k6).symm (kLet_eq (k425).symm (kif_f (by decide) (kLet_eq (k438).symm (kif_t (leI c440) rfl))))))), (rg_w (rg_lit (n := 0) (by decide)) (by decide)), (rg_w (rg_lit (n := 0) (by decide)) (by decide)), hP.sub (ws' := [(h, oX11 0 aw ai ab ac hi re aP ta po en be de fa a5 sp av an ak ne aW aC ag aT aN aF), (aw, kcI cI 2179 fw)]) [0, 1] rfl, hD.sub (ws' := [(h, oX11 0 aw ai ab ac hi re aP ta po en be de fa a5 sp av an ak ne aW aC ag aT aN aF), (aw, kcI cI 2179 fw)]) [0, 1] (by decide) rfl, hS, lv_sub (l' := [(4, .int 0), (3, .int 0), (0, .ref h), (1, .int mm), (2, .int b)]) hl [0, 1, 2, 3, 4] rfl⟩ (fun u H locs ls hI ih816 => ?_)
        clear hP hD hS hl
        obtain ⟨y814, y815⟩ := u
        obtain ⟨hF1, hy814, hy815, hP, hD, hS, hl⟩ := hI
        have hP : va_P D vwCl [(h, oX11 0 aw ai ab ac hi re aP ta po en be de fa a5 sp av an ak ne aW aC ag aT aN aF), (aw, kcI cI 2179 fw)] H := hP
        have hD : va_D A [(h, oX11 0 aw ai ab ac hi re aP ta po en be de fa a5 sp av an ak ne aW aC ag aT aN aF), (aw, kcI cI 2179 fw)] := hD
        have hl : lv_has ls 5 [(4, .int y814), (3, .int y815), (0, .ref h), (1, .int mm), (2, .int b)] := hl
        refine lv_iload hx hb dX11_man_59 (lv_at hl 0 rfl) ?_
        refine lv_aload_n hx hb dX11_man_61 rfl (lv_at hl 2 rfl) ?_
        refine kpurei (wc := [(h, oX11 0 aw ai ab ac hi re aP ta po en be de fa a5 sp av an ak ne aW aC ag aT aN aF), (aw, kcI cI 2179 fw)]) hP hD hS hA [0, 1] rfl (by decide) (fun hPc hDc hFc => va_runV (As := []) (rest := [.int y814]) ⟨hx, hb, hml, hown, hts⟩ (r_men l D cI cJ cB cC h 0 aw ai ab ac hi re aP ta po en be de fa a5 sp av an ak ne aW aC ag aT aN aF fw H.size H_fw_W) (cwV 0 hts gX11_man_X11_men rfl rfl rfl ⟨rfl, hdX11_men⟩ ⟨Nat.le_of_ble_eq_true rfl, Nat.le_of_ble_eq_true rfl⟩) ⟨kBlind, va_recv hK hPc (ci := 10) (q0 := 0) rfl rfl, fun U hU hW => ⟨rfl, by rw [hU], hN.warm hW, hE.pass hS hFc hW hU, by rw [hU]; exact hPc, va_K.moved hW.alike hK, hDc⟩⟩ rfl rfl hl.1 rfl (lv_room (Nat.le_of_ble_eq_true rfl)) dX11_man_62 ⟨Nat.le_of_ble_eq_true rfl, Nat.le_of_ble_eq_true rfl⟩) (fun r817 u H locs hw hP hS => ?_)
        obtain ⟨k818, k819, k820⟩ := hw
        refine lv_icmp_ge (tgt := 95) hx hb dX11_man_65 (by decide) (fun c821 => ?_) (fun c821 => ?_)
        · skip
          refine lv_iload_n hx hb dX11_man_95 rfl (lv_at hl 1 rfl) ?_
          have hP9 := hP.sub (ws' := [(h, oX11 0 aw ai ab ac hi re aP ta po en be de fa a5 sp av an ak ne aW aC ag aT aN aF), (aw, kcI cI 2179 fw)]) [0, 1] rfl
          have hD9 := hD.sub (ws' := [(h, oX11 0 aw ai ab ac hi re aP ta po en be de fa a5 sp av an ak ne aW aC ag aT aN aF), (aw, kcI cI 2179 fw)]) [0, 1] (by decide) rfl
          exact W.iret (v := y815) hx hb hr (fun t ht hW => ⟨⟨y815, ((0 : Int32)), rfl, (hF1.trans (kIter_out (kC_eq rfl (kLet_eq (k820).symm (kif_t (leI c821) rfl))))), by rw [ht]; exact hP9, va_K.moved hW.alike hK, hD9⟩, hS.F ht⟩) hS.2.2 dX11_man_96
        · skip
          have k822 : Rg y814 0 9 := rg_l1 (nleI c821) hy814 k819 (by decide)
          have k823 : Rg r817 1 10 := rg_l2 (nleI c821) hy814 k819 (by decide)
          refine lv_iload_n hx hb dX11_man_68 rfl (lv_at hl 1 rfl) ?_
          refine lv_aload_n hx hb dX11_man_69 rfl (lv_at hl 2 rfl) ?_
          refine lv_iload_n hx hb dX11_man_70 rfl (lv_at hl 3 rfl) ?_
          refine lv_iload hx hb dX11_man_71 (lv_at hl 0 rfl) ?_
          refine kpurei (wc := [(h, oX11 0 aw ai ab ac hi re aP ta po en be de fa a5 sp av an ak ne aW aC ag aT aN aF), (aw, kcI cI 2179 fw)]) hP hD hS hA [0, 1] rfl (by decide) (fun hPc hDc hFc => va_runV (As := [.int mm, .int y814]) (rest := [.int y815]) ⟨hx, hb, hml, hown, hts⟩ (r_isNeighbour l D cI cJ cB cC h 0 aw ai ab ac hi re aP ta po en be de fa a5 sp av an ak ne aW aC ag aT aN aF fw mm y814 H.size kc3_0 k822 H_fw_W) (cwV 2 hts gX11_man_X11_isNeighbour rfl rfl rfl ⟨rfl, hdX11_isNeighbour⟩ ⟨Nat.le_of_ble_eq_true rfl, Nat.le_of_ble_eq_true rfl⟩) ⟨kBlind, va_recv hK hPc (ci := 10) (q0 := 0) rfl rfl, fun U hU hW => ⟨rfl, by rw [hU], hN.warm hW, hE.pass hS hFc hW hU, by rw [hU]; exact hPc, va_K.moved hW.alike hK, hDc⟩⟩ rfl rfl hl.1 rfl (lv_room (Nat.le_of_ble_eq_true rfl)) dX11_man_73 ⟨Nat.le_of_ble_eq_true rfl, Nat.le_of_ble_eq_true rfl⟩) (fun r824 u H locs hw hP hS => ?_)
          obtain ⟨k825, hw⟩ := hw
          rcases hw with rfl | rfl
          · skip
            refine lv_if_eq (tgt := 86) hx hb dX11_man_76 (by decide) (fun _ => ?_) (fun c828 => absurd (by decide) c828)
            refine lv_iconst (v := 0) hx hb dX11_man_86 (by decide) ?_
            refine lv_ior hx hb dX11_man_87 ?_
            refine lv_topi (fun x829 ex829 => ?_)
            have k830 : Rg x829 0 1023 := rg_or 10 ex829 hy815 (rg_lit (n := 0) (by decide)) (by decide)
            refine lv_istore_n (lv' := [(3, .int x829), (4, .int y814), (0, .ref h), (1, .int mm), (2, .int b)]) hx hb dX11_man_88 rfl hl (by decide) rfl (fun ls hl => ?_)
            obtain ⟨x831, ex831⟩ : ∃ y : Int32, y = y814 + 1 := ⟨_, rfl⟩
            refine lv_iinc (v := x831) (lv' := [(4, .int x831), (3, .int x829), (0, .ref h), (1, .int mm), (2, .int b)]) hx hb dX11_man_89 hl (k := 1) rfl (by rw [ex831]; rfl) (by decide) rfl (fun ls hl => ?_)
            have k832 : Rg x831 1 10 := rg_add ex831 k822 (rg_lit (n := 1) (by decide)) (by decide)
            refine lv_goto (tgt := 59) hx hb dX11_man_92 (by decide) ?_
            exact ih816 (x831, x829) _ _ _ (by show (10 - (x831).toInt).toNat < (10 - (y814).toInt).toNat; exact mu_up ex831 k822 k832 (by decide)) ⟨(hF1.trans (kIter_go (kC_eq rfl (kLet_eq (k820).symm (kif_f (xF_le c821) (kLet_eq (k825).symm (kif_t rfl (kLet_eq (ke_or ex829) (kLet_eq (ti_add ex831 k822 (rg_lit (n := 1) (by decide)) (by decide) rfl rfl) rfl))))))))), (rg_w k832 (by decide)), k830, hP.sub (ws' := [(h, oX11 0 aw ai ab ac hi re aP ta po en be de fa a5 sp av an ak ne aW aC ag aT aN aF), (aw, kcI cI 2179 fw)]) [0, 1] rfl, hD.sub (ws' := [(h, oX11 0 aw ai ab ac hi re aP ta po en be de fa a5 sp av an ak ne aW aC ag aT aN aF), (aw, kcI cI 2179 fw)]) [0, 1] (by decide) rfl, hS, lv_sub (l' := [(4, .int x831), (3, .int x829), (0, .ref h), (1, .int mm), (2, .int b)]) hl [0, 1, 2, 3, 4] rfl⟩
          · skip
            refine lv_if_eq (tgt := 86) hx hb dX11_man_76 (by decide) (fun c836 => absurd c836 (by decide)) (fun _ => ?_)
            refine lv_iconst (v := 1) hx hb dX11_man_79 (by decide) ?_
            refine lv_iload hx hb dX11_man_80 (lv_at hl 0 rfl) ?_
            refine lv_ishl hx hb dX11_man_82 ?_
            refine lv_topi (fun x837 ex837 => ?_)
            have k838 : Rg x837 1 512 := rg_shl1 9 ex837 k822 (by decide)
            refine lv_goto (tgt := 87) hx hb dX11_man_83 (by decide) ?_
            refine lv_ior hx hb dX11_man_87 ?_
            refine lv_topi (fun x839 ex839 => ?_)
            have k840 : Rg x839 0 1023 := rg_or 10 ex839 hy815 k838 (by decide)
            refine lv_istore_n (lv' := [(3, .int x839), (4, .int y814), (0, .ref h), (1, .int mm), (2, .int b)]) hx hb dX11_man_88 rfl hl (by decide) rfl (fun ls hl => ?_)
            obtain ⟨x841, ex841⟩ : ∃ y : Int32, y = y814 + 1 := ⟨_, rfl⟩
            refine lv_iinc (v := x841) (lv' := [(4, .int x841), (3, .int x839), (0, .ref h), (1, .int mm), (2, .int b)]) hx hb dX11_man_89 hl (k := 1) rfl (by rw [ex841]; rfl) (by decide) rfl (fun ls hl => ?_)
            have k842 : Rg x841 1 10 := rg_add ex841 k822 (rg_lit (n := 1) (by decide)) (by decide)
            refine lv_goto (tgt := 59) hx hb dX11_man_92 (by decide) ?_
            exact ih816 (x841, x839) _ _ _ (by show (10 - (x841).toInt).toNat < (10 - (y814).toInt).toNat; exact mu_up ex841 k822 k842 (by decide)) ⟨(hF1.trans (kIter_go (kC_eq rfl (kLet_eq (k820).symm (kif_f (xF_le c821) (kLet_eq (k825).symm (kif_f (by decide) (kLet_eq (ke_shl ex837) (kLet_eq (ke_or ex839) (kLet_eq (ti_add ex841 k822 (rg_lit (n := 1) (by decide)) (by decide) rfl rfl) rfl)))))))))), (rg_w k842 (by decide)), k840, hP.sub (ws' := [(h, oX11 0 aw ai ab ac hi re aP ta po en be de fa a5 sp av an ak ne aW aC ag aT aN aF), (aw, kcI cI 2179 fw)]) [0, 1] rfl, hD.sub (ws' := [(h, oX11 0 aw ai ab ac hi re aP ta po en be de fa a5 sp av an ak ne aW aC ag aT aN aF), (aw, kcI cI 2179 fw)]) [0, 1] (by decide) rfl, hS, lv_sub (l' := [(4, .int x841), (3, .int x839), (0, .ref h), (1, .int mm), (2, .int b)]) hl [0, 1, 2, 3, 4] rfl⟩
      · skip
        have k843 : Rg b 0 4 := rg_l1 (nleI c440) kc426_0 (rg_lit (n := 5) (by decide)) (by decide)
        refine lv_aload_n hx hb dX11_man_47 rfl (lv_at hl 0 rfl) ?_
        refine lv_iload_n hx hb dX11_man_48 rfl (lv_at hl 1 rfl) ?_
        refine lv_iload_n hx hb dX11_man_49 rfl (lv_at hl 2 rfl) ?_
        refine kpurei (wc := [(h, oX11 0 aw ai ab ac hi re aP ta po en be de fa a5 sp av an ak ne aW aC ag aT aN aF), (aw, kcI cI 2179 fw)]) hP hD hS hA [0, 1] rfl (by decide) (fun hPc hDc hFc => va_runV (As := [.int mm, .int b]) (rest := []) ⟨hx, hb, hml, hown, hts⟩ (r_ofMan l D cI cJ cB cC h 0 aw ai ab ac hi re aP ta po en be de fa a5 sp av an ak ne aW aC ag aT aN aF fw mm b H.size kc3_0 k843 H_fw_W) (cwV 2 hts gX11_man_X11_ofMan rfl rfl rfl ⟨rfl, hdX11_ofMan⟩ ⟨Nat.le_of_ble_eq_true rfl, Nat.le_of_ble_eq_true rfl⟩) ⟨kBlind, va_recv hK hPc (ci := 10) (q0 := 0) rfl rfl, fun U hU hW => ⟨rfl, by rw [hU], hN.warm hW, hE.pass hS hFc hW hU, by rw [hU]; exact hPc, va_K.moved hW.alike hK, hDc⟩⟩ rfl rfl hl.1 rfl (lv_room (Nat.le_of_ble_eq_true rfl)) dX11_man_50 ⟨Nat.le_of_ble_eq_true rfl, Nat.le_of_ble_eq_true rfl⟩) (fun r844 u H locs hw hP hS => ?_)
        have k845 := hw
        have hP9 := hP.sub (ws' := [(h, oX11 0 aw ai ab ac hi re aP ta po en be de fa a5 sp av an ak ne aW aC ag aT aN aF), (aw, kcI cI 2179 fw)]) [0, 1] rfl
        have hD9 := hD.sub (ws' := [(h, oX11 0 aw ai ab ac hi re aP ta po en be de fa a5 sp av an ak ne aW aC ag aT aN aF), (aw, kcI cI 2179 fw)]) [0, 1] (by decide) rfl
        exact W.iret (v := r844) hx hb hr (fun t ht hW => ⟨⟨r844, ((0 : Int32)), rfl, (kLet_eq (k2).symm (kif_t rfl (kLet_eq (k6).symm (kLet_eq (k425).symm (kif_f (by decide) (kLet_eq (k438).symm (kif_f (xF_le c440) (kLet_eq (k845).symm rfl)))))))), by rw [ht]; exact hP9, va_K.moved hW.alike hK, hD9⟩, hS.F ht⟩) hS.2.2 dX11_man_53
  · skip
    refine lv_iconst (v := 1) hx hb dX11_man_11 (by decide) ?_
    refine kcalli (wc := [(h, oX11 0 aw ai ab ac hi re aP ta po en be de fa a5 sp av an ak ne aW aC ag aT aN aF)]) (wr := [(aw, kcI cI 2179 fw)]) hP hD hS hA [0] [1] rfl rfl (by decide) (by decide) (by decide) (fun hPc hDc hFc => va_runV (As := [.int 1, .int 1]) (rest := []) ⟨hx, hb, hml, hown, hts⟩ (r_throwsIf1_1 l D cI cJ cB cC h 0 aw ai ab ac hi re aP ta po en be de fa a5 sp av an ak ne aW aC ag aT aN aF 1 H.size) (cwV 2 hts gX11_man_X11_throwsIf rfl rfl rfl ⟨rfl, hdX11_throwsIf⟩ ⟨Nat.le_of_ble_eq_true rfl, Nat.le_of_ble_eq_true rfl⟩) ⟨kBlind, va_recv hK hPc (ci := 10) (q0 := 0) rfl rfl, fun U hU hW => ⟨rfl, by rw [hU], hN.warm hW, hE.pass hS hFc hW hU, by rw [hU]; exact hPc, va_K.moved hW.alike hK, hDc⟩⟩ rfl rfl hl.1 rfl (lv_room (Nat.le_of_ble_eq_true rfl)) dX11_man_12 ⟨Nat.le_of_ble_eq_true rfl, Nat.le_of_ble_eq_true rfl⟩) (fun r846 u H locs hw hP hD hS => ?_)
    obtain ⟨x847, rfl⟩ : ∃ z, z = u := ⟨_, rfl⟩
    have hP : va_P D vwCl [(aw, kcI cI 2179 fw), (h, oX11 x847 aw ai ab ac hi re aP ta po en be de fa a5 sp av an ak ne aW aC ag aT aN aF)] H := hP
    have hD : va_D A [(aw, kcI cI 2179 fw), (h, oX11 x847 aw ai ab ac hi re aP ta po en be de fa a5 sp av an ak ne aW aC ag aT aN aF)] := hD
    obtain ⟨k848, k849⟩ := hw
    refine lv_if_ne (tgt := 40) hx hb dX11_man_15 (by decide) (fun _ => ?_) (fun c851 => absurd c851 (rg_neq k848 (rg_lit (n := 0) (by decide)) (by decide)))
    refine lv_iconst (v := 0) hx hb dX11_man_40 (by decide) ?_
    have hP9 := hP.sub (ws' := [(h, oX11 x847 aw ai ab ac hi re aP ta po en be de fa a5 sp av an ak ne aW aC ag aT aN aF), (aw, kcI cI 2179 fw)]) [1, 0] rfl
    have hD9 := hD.sub (ws' := [(h, oX11 x847 aw ai ab ac hi re aP ta po en be de fa a5 sp av an ak ne aW aC ag aT aN aF), (aw, kcI cI 2179 fw)]) [1, 0] (by decide) rfl
    exact W.iret (v := 0) hx hb hr (fun t ht hW => ⟨⟨0, (x847), rfl, (kLet_eq (k2).symm (kif_f (by decide) (kC_eq k849 rfl))), by rw [ht]; exact hP9, va_K.moved hW.alike hK, hD9⟩, hS.F ht⟩) hS.2.2 dX11_man_41

def kwX11_shirt : List Cond := .code yX11_shirt cX11_shirt 3 (some .int) :: kG
theorem hdX11_shirt : yX11_shirt.cls ≠ "java/lang/invoke/MethodHandle" ∧ yX11_shirt.cls ≠ "java/lang/invoke/VarHandle" ∧ (parseMethodDescriptor yX11_shirt.desc).map (fun d => d.parameters.length) = some 2 := by decide +kernel
theorem gX11_shirt_X11_in : GoodIn kG (va_wsS RX11 75 yX11_in kwX11_in) := gK w27_8 (gK w27_9 (gK w0_5 (gK w27_10 gGG)))
theorem gX11_shirt_X11_noShirt : GoodIn kG (wsV RX11 283 RX11 yX11_noShirt kwX11_noShirt) := gK w28_12 (gK w28_13 (gK w28_14 (gK w0_5 (gK w28_15 gGG))))
theorem gX11_shirt_X11_of : GoodIn kG (wsV RX11 156 RX11 yX11_of kwX11_of) := gK w21_9 (gK w21_10 (gK w21_11 (gK w0_5 (gK w21_12 gGG))))
theorem gX11_shirt_X11_throwsIf : GoodIn kG (wsV RX11 258 RX11 yX11_throwsIf kwX11_throwsIf) := gK w23_6 (gK w23_7 (gK w23_8 (gK w0_5 (gK w23_9 gGG))))
theorem dX11_shirt_0 : decode cX11_shirt 0 = .ok (.aload_n 0, 1) := by decide +kernel
theorem dX11_shirt_1 : decode cX11_shirt 1 = .ok (.iconst 0, 1) := by decide +kernel
theorem dX11_shirt_2 : decode cX11_shirt 2 = .ok (.putfield 3, 3) := by decide +kernel
theorem dX11_shirt_5 : decode cX11_shirt 5 = .ok (.aload_n 0, 1) := by decide +kernel
theorem dX11_shirt_6 : decode cX11_shirt 6 = .ok (.aload_n 0, 1) := by decide +kernel
theorem dX11_shirt_7 : decode cX11_shirt 7 = .ok (.iload_n 1, 1) := by decide +kernel
theorem dX11_shirt_8 : decode cX11_shirt 8 = .ok (.invokevirtual 283, 3) := by decide +kernel
theorem dX11_shirt_11 : decode cX11_shirt 11 = .ok (.iconst 1, 1) := by decide +kernel
theorem dX11_shirt_12 : decode cX11_shirt 12 = .ok (.invokevirtual 258, 3) := by decide +kernel
theorem dX11_shirt_15 : decode cX11_shirt 15 = .ok (.ifCond .ne 26, 3) := by decide +kernel
theorem dX11_shirt_18 : decode cX11_shirt 18 = .ok (.aload_n 0, 1) := by decide +kernel
theorem dX11_shirt_19 : decode cX11_shirt 19 = .ok (.iload_n 2, 1) := by decide +kernel
theorem dX11_shirt_20 : decode cX11_shirt 20 = .ok (.iconst 0, 1) := by decide +kernel
theorem dX11_shirt_21 : decode cX11_shirt 21 = .ok (.bipush 6, 2) := by decide +kernel
theorem dX11_shirt_23 : decode cX11_shirt 23 = .ok (.invokestatic 75, 3) := by decide +kernel
theorem dX11_shirt_26 : decode cX11_shirt 26 = .ok (.ifCond .ne 7, 3) := by decide +kernel
theorem dX11_shirt_29 : decode cX11_shirt 29 = .ok (.iconst 1, 1) := by decide +kernel
theorem dX11_shirt_30 : decode cX11_shirt 30 = .ok (.goto 4, 3) := by decide +kernel
theorem dX11_shirt_33 : decode cX11_shirt 33 = .ok (.iconst 0, 1) := by decide +kernel
theorem dX11_shirt_34 : decode cX11_shirt 34 = .ok (.iconst 2, 1) := by decide +kernel
theorem dX11_shirt_35 : decode cX11_shirt 35 = .ok (.invokevirtual 258, 3) := by decide +kernel
theorem dX11_shirt_38 : decode cX11_shirt 38 = .ok (.ifCond .eq 7, 3) := by decide +kernel
theorem dX11_shirt_41 : decode cX11_shirt 41 = .ok (.iconst 0, 1) := by decide +kernel
theorem dX11_shirt_42 : decode cX11_shirt 42 = .ok (.goto 9, 3) := by decide +kernel
theorem dX11_shirt_45 : decode cX11_shirt 45 = .ok (.aload_n 0, 1) := by decide +kernel
theorem dX11_shirt_46 : decode cX11_shirt 46 = .ok (.iload_n 1, 1) := by decide +kernel
theorem dX11_shirt_47 : decode cX11_shirt 47 = .ok (.iload_n 2, 1) := by decide +kernel
theorem dX11_shirt_48 : decode cX11_shirt 48 = .ok (.invokevirtual 156, 3) := by decide +kernel
theorem dX11_shirt_51 : decode cX11_shirt 51 = .ok (.ireturn, 1) := by decide +kernel
set_option maxHeartbeats 4000000 in
set_option maxRecDepth 100000 in
/-- reference: shirt -/
theorem r_shirt (l : Launch) (D : va_G) (cI cJ cB cC : ClassId) (h : Nat) (th : Int32) (aw : Nat) (ai : Nat) (ab : Nat) (ac : Nat) (hi : Int32) (re : Int32) (aP : Nat) (ta : Int32) (po : Int32) (en : Int32) (be : Int32) (de : Int32) (fa : Int32) (a5 : Nat) (sp : Int32) (av : Nat) (an : Nat) (ak : Nat) (ne : Int32) (aW : Nat) (aC : Nat) (ag : Nat) (aT : Nat) (aN : Nat) (aF : Nat) (fw : Nat → Int32) (mm : Int32) (b : Int32) (sz : Nat) (H_fw_W : wW fw) : Met l yX11_shirt kwX11_shirt ({ frames := 2, cells := 0, slots := 0, locals := 43 } : Room) (kPre D (kT cI cJ cB cC) sz [(h, oX11 th aw ai ab ac hi re aP ta po en be de fa a5 sp av an ak ne aW aC ag aT aN aF), (aw, kcI cI 2179 fw)] [.ref h, .int mm, .int b]) (va_Qi (fun (r : Int32) (n0_ : Int32) => F_r_shirt (gT fw) (mm : Int32).toInt (b : Int32).toInt = ((r : Int32).toInt, (n0_ : Int32).toInt)) (fun (n0_ : Int32) (t : State) => kB D (kT cI cJ cB cC) (va_A [(h, oX11 th aw ai ab ac hi re aP ta po en be de fa a5 sp av an ak ne aW aC ag aT aN aF), (aw, kcI cI 2179 fw)] sz) [(h, oX11 n0_ aw ai ab ac hi re aP ta po en be de fa a5 sp av an ak ne aW aC ag aT aN aF), (aw, kcI cI 2179 fw)] t) (va_A [(h, oX11 th aw ai ab ac hi re aP ta po en be de fa a5 sp av an ak ne aW aC ag aT aN aF), (aw, kcI cI 2179 fw)] sz)) 0 0 (va_A [(h, oX11 th aw ai ab ac hi re aP ta po en be de fa a5 sp av an ak ne aW aC ag aT aN aF), (aw, kcI cI 2179 fw)] sz) := by
  refine Met.ofW (cc := cX11_shirt) (maxL := 3) (ret := (some .int)) (by decide) rfl ?_
  intro p e s m args below meth c s₁ B hml hv
  obtain ⟨rfl, hsz, hN, hE, hP, hK, hD0⟩ := hv
  have hx := B.exec
  have hb := B.bytes
  have hr := B.returns
  have hts := fun (w : Cond) (h : w ∈ kG) => atoms_spec (ws := kwX11_shirt) B.pre w (List.mem_cons_of_mem _ h)
  have hown : s.vm.findClass RX11 = some m.cls := findClass_of_methodNamed B.named
  subst hsz
  have hD := hD0.self (sz := s.heap.size)
  generalize hAe : va_A [(h, oX11 th aw ai ab ac hi re aP ta po en be de fa a5 sp av an ak ne aW aC ag aT aN aF), (aw, kcI cI 2179 fw)] s.heap.size = A at hD hE ⊢
  have hA : ∀ q : Nat, s.heap.size ≤ q → A q := fun q h => by rw [← hAe]; exact Or.inr h
  have hl := lv_entry ([.ref h, .int mm, .int b]) (n := 3) (Nat.le_of_ble_eq_true rfl)
  rw [lg_entry_eq]
  generalize (lg_sl ([.ref h, .int mm, .int b]) ++ List.replicate (3 - (lg_sl ([.ref h, .int mm, .int b])).length) Slot.unset).toArray = ls at hl ⊢
  have hl : lv_has ls 3 [(0, .ref h), (1, .int mm), (2, .int b)] := hl
  obtain ⟨H, hH0⟩ : ∃ H, H = s.heap := ⟨_, rfl⟩
  have hS : va_S A s.heap H [] := by rw [hH0]; exact va_S.rf
  have hP : va_P D vwCl [(h, oX11 th aw ai ab ac hi re aP ta po en be de fa a5 sp av an ak ne aW aC ag aT aN aF), (aw, kcI cI 2179 fw)] H := by rw [hH0]; exact hP
  refine kHeap hH0 ?_
  clear hH0
  refine lv_aload_n hx hb dX11_shirt_0 rfl (lv_at hl 0 rfl) ?_
  refine lv_iconst (v := 0) hx hb dX11_shirt_1 (by decide) ?_
  refine va_put (D := D) (ci := 10) (v := .int 0) (ty := .int) (C := RX11) (T := TX11) (N := 26) hx hb hts iG_X11 tyX11 tyX11_ok nmX11 hown hK hP hD hS 0 rfl rfl 0 (by decide) (hts _ w6_8) (fun _ h9 => h9) rfl (by decide +kernel) rfl rfl (Nat.le_of_ble_eq_true rfl) dX11_shirt_2 (fun H locs hP hD hS => ?_)
  have hP : va_P D vwCl [(h, oX11 0 aw ai ab ac hi re aP ta po en be de fa a5 sp av an ak ne aW aC ag aT aN aF), (aw, kcI cI 2179 fw)] H := hP
  have hD : va_D A [(h, oX11 0 aw ai ab ac hi re aP ta po en be de fa a5 sp av an ak ne aW aC ag aT aN aF), (aw, kcI cI 2179 fw)] := hD
  refine lv_aload_n hx hb dX11_shirt_5 rfl (lv_at hl 0 rfl) ?_
  refine lv_aload_n hx hb dX11_shirt_6 rfl (lv_at hl 0 rfl) ?_
  refine lv_iload_n hx hb dX11_shirt_7 rfl (lv_at hl 1 rfl) ?_
  refine kpurei (wc := [(h, oX11 0 aw ai ab ac hi re aP ta po en be de fa a5 sp av an ak ne aW aC ag aT aN aF), (aw, kcI cI 2179 fw)]) hP hD hS hA [0, 1] rfl (by decide) (fun hPc hDc hFc => va_runV (As := [.int mm]) (rest := [.ref h]) ⟨hx, hb, hml, hown, hts⟩ (r_noShirt l D cI cJ cB cC h 0 aw ai ab ac hi re aP ta po en be de fa a5 sp av an ak ne aW aC ag aT aN aF fw mm H.size H_fw_W) (cwV 1 hts gX11_shirt_X11_noShirt rfl rfl rfl ⟨rfl, hdX11_noShirt⟩ ⟨Nat.le_of_ble_eq_true rfl, Nat.le_of_ble_eq_true rfl⟩) ⟨kBlind, va_recv hK hPc (ci := 10) (q0 := 0) rfl rfl, fun U hU hW => ⟨rfl, by rw [hU], hN.warm hW, hE.pass hS hFc hW hU, by rw [hU]; exact hPc, va_K.moved hW.alike hK, hDc⟩⟩ rfl rfl hl.1 rfl (lv_room (Nat.le_of_ble_eq_true rfl)) dX11_shirt_8 ⟨Nat.le_of_ble_eq_true rfl, Nat.le_of_ble_eq_true rfl⟩) (fun r1 u H locs hw hP hS => ?_)
  obtain ⟨k2, hw⟩ := hw
  rcases hw with ⟨rfl, kc3_0, kc3_1⟩ | rfl
  · skip
    refine lv_iconst (v := 1) hx hb dX11_shirt_11 (by decide) ?_
    refine kpurei (wc := [(h, oX11 0 aw ai ab ac hi re aP ta po en be de fa a5 sp av an ak ne aW aC ag aT aN aF)]) hP hD hS hA [0] rfl (by decide) (fun hPc hDc hFc => va_runV (As := [.int 0, .int 1]) (rest := []) ⟨hx, hb, hml, hown, hts⟩ (r_throwsIf0_1 l D cI cJ cB cC h 0 aw ai ab ac hi re aP ta po en be de fa a5 sp av an ak ne aW aC ag aT aN aF 1 H.size) (cwV 2 hts gX11_shirt_X11_throwsIf rfl rfl rfl ⟨rfl, hdX11_throwsIf⟩ ⟨Nat.le_of_ble_eq_true rfl, Nat.le_of_ble_eq_true rfl⟩) ⟨kBlind, va_recv hK hPc (ci := 10) (q0 := 0) rfl rfl, fun U hU hW => ⟨rfl, by rw [hU], hN.warm hW, hE.pass hS hFc hW hU, by rw [hU]; exact hPc, va_K.moved hW.alike hK, hDc⟩⟩ rfl rfl hl.1 rfl (lv_room (Nat.le_of_ble_eq_true rfl)) dX11_shirt_12 ⟨Nat.le_of_ble_eq_true rfl, Nat.le_of_ble_eq_true rfl⟩) (fun r4 u H locs hw hP hS => ?_)
    obtain ⟨k5, k6⟩ := hw
    refine k_join (hd := 51) (cells2 := 0) (slots2 := 0) (fun (u : Int32 × Int32) => match u with | (z26, y27) => [.int z26]) (fun (u : Int32 × Int32) (H : Heap) (locs : List Loc) (ls : Array Slot) => match u with | (z26, y27) => (F_r_shirt (gT fw) mm.toInt b.toInt = F_r_shirt_j1 z26.toInt y27.toInt) ∧ va_P D vwCl [(h, oX11 y27 aw ai ab ac hi re aP ta po en be de fa a5 sp av an ak ne aW aC ag aT aN aF), (aw, kcI cI 2179 fw)] H ∧ va_D A [(h, oX11 y27 aw ai ab ac hi re aP ta po en be de fa a5 sp av an ak ne aW aC ag aT aN aF), (aw, kcI cI 2179 fw)] ∧ va_S A s.heap H locs ∧ lv_has ls 3 [(0, .ref h), (1, .int mm), (2, .int b)]) (fun u H locs ls hI => ?_) (fun hJ51 => ?_)
    · skip
      clear hP hD hS hl
      obtain ⟨z26, y27⟩ := u
      obtain ⟨hF1, hP, hD, hS, hl⟩ := hI
      have hP : va_P D vwCl [(h, oX11 y27 aw ai ab ac hi re aP ta po en be de fa a5 sp av an ak ne aW aC ag aT aN aF), (aw, kcI cI 2179 fw)] H := hP
      have hD : va_D A [(h, oX11 y27 aw ai ab ac hi re aP ta po en be de fa a5 sp av an ak ne aW aC ag aT aN aF), (aw, kcI cI 2179 fw)] := hD
      have hl : lv_has ls 3 [(0, .ref h), (1, .int mm), (2, .int b)] := hl
      show W _ _ _ _ _ _ _ _ _ _ _ _ _ _ _ (F0 m 51 ls [.int z26])
      have hP9 := hP.sub (ws' := [(h, oX11 y27 aw ai ab ac hi re aP ta po en be de fa a5 sp av an ak ne aW aC ag aT aN aF), (aw, kcI cI 2179 fw)]) [0, 1] rfl
      have hD9 := hD.sub (ws' := [(h, oX11 y27 aw ai ab ac hi re aP ta po en be de fa a5 sp av an ak ne aW aC ag aT aN aF), (aw, kcI cI 2179 fw)]) [0, 1] (by decide) rfl
      exact W.iret (v := z26) hx hb hr (fun t ht hW => ⟨⟨z26, (y27), rfl, (hF1.trans rfl), by rw [ht]; exact hP9, va_K.moved hW.alike hK, hD9⟩, hS.F ht⟩) hS.2.2 dX11_shirt_51
    refine lv_if_ne (tgt := 41) hx hb dX11_shirt_15 (by decide) (fun c28 => absurd (rg_eq k5 (rg_lit (n := 0) (by decide)) (by decide)) c28) (fun _ => ?_)
    refine lv_aload_n hx hb dX11_shirt_18 rfl (lv_at hl 0 rfl) ?_
    refine lv_iload_n hx hb dX11_shirt_19 rfl (lv_at hl 2 rfl) ?_
    refine lv_iconst (v := 0) hx hb dX11_shirt_20 (by decide) ?_
    refine lv_bipush (v := 6) hx hb dX11_shirt_21 (by decide) ?_
    refine kpurei (wc := []) hP hD hS hA [] rfl (by decide) (fun hPc hDc hFc => va_runS (As := [.int b, .int 0, .int 6]) (rest := [.ref h]) ⟨hx, hb, hml, hown, hts⟩ (r_in_0_6 l D cI cJ cB cC b H.size) (va_cwS 3 hts gX11_shirt_X11_in rfl rfl rfl hdX11_in ⟨Nat.le_of_ble_eq_true rfl, Nat.le_of_ble_eq_true rfl⟩) ⟨kBlind, fun U hU hW => ⟨rfl, by rw [hU], hN.warm hW, hE.pass hS hFc hW hU, by rw [hU]; exact hPc, va_K.moved hW.alike hK, hDc⟩⟩ rfl rfl hl.1 rfl (lv_room (Nat.le_of_ble_eq_true rfl)) dX11_shirt_23 ⟨Nat.le_of_ble_eq_true rfl, Nat.le_of_ble_eq_true rfl⟩) (fun r29 u H locs hw hP hS => ?_)
    obtain ⟨k30, hw⟩ := hw
    rcases hw with rfl | ⟨rfl, kc31_0⟩
    · skip
      refine lv_if_ne (tgt := 33) hx hb dX11_shirt_26 (by decide) (fun c33 => absurd (by decide) c33) (fun _ => ?_)
      refine lv_iconst (v := 1) hx hb dX11_shirt_29 (by decide) ?_
      refine lv_goto (tgt := 34) hx hb dX11_shirt_30 (by decide) ?_
      refine lv_iconst (v := 2) hx hb dX11_shirt_34 (by decide) ?_
      refine kcalli (wc := [(h, oX11 0 aw ai ab ac hi re aP ta po en be de fa a5 sp av an ak ne aW aC ag aT aN aF)]) (wr := [(aw, kcI cI 2179 fw)]) hP hD hS hA [0] [1] rfl rfl (by decide) (by decide) (by decide) (fun hPc hDc hFc => va_runV (As := [.int 1, .int 2]) (rest := []) ⟨hx, hb, hml, hown, hts⟩ (r_throwsIf1_1 l D cI cJ cB cC h 0 aw ai ab ac hi re aP ta po en be de fa a5 sp av an ak ne aW aC ag aT aN aF 2 H.size) (cwV 2 hts gX11_shirt_X11_throwsIf rfl rfl rfl ⟨rfl, hdX11_throwsIf⟩ ⟨Nat.le_of_ble_eq_true rfl, Nat.le_of_ble_eq_true rfl⟩) ⟨kBlind, va_recv hK hPc (ci := 10) (q0 := 0) rfl rfl, fun U hU hW => ⟨rfl, by rw [hU], hN.warm hW, hE.pass hS hFc hW hU, by rw [hU]; exact hPc, va_K.moved hW.alike hK, hDc⟩⟩ rfl rfl hl.1 rfl (lv_room (Nat.le_of_ble_eq_true rfl)) dX11_shirt_35 ⟨Nat.le_of_ble_eq_true rfl, Nat.le_of_ble_eq_true rfl⟩) (fun r34 u H locs hw hP hD hS => ?_)
      obtain ⟨x35, rfl⟩ : ∃ z, z = u := ⟨_, rfl⟩
      have hP : va_P D vwCl [(aw, kcI cI 2179 fw), (h, oX11 x35 aw ai ab ac hi re aP ta po en be de fa a5 sp av an ak ne aW aC ag aT aN aF)] H := hP
      have hD : va_D A [(aw, kcI cI 2179 fw), (h, oX11 x35 aw ai ab ac hi re aP ta po en be de fa a5 sp av an ak ne aW aC ag aT aN aF)] := hD
      obtain ⟨k36, k37⟩ := hw
      refine lv_if_eq (tgt := 45) hx hb dX11_shirt_38 (by decide) (fun c38 => absurd c38 (rg_neq k36 (rg_lit (n := 0) (by decide)) (by decide))) (fun _ => ?_)
      refine lv_iconst (v := 0) hx hb dX11_shirt_41 (by decide) ?_
      refine lv_goto (tgt := 51) hx hb dX11_shirt_42 (by decide) ?_
      exact hJ51 ((0 : Int32), x35) _ _ _ ⟨(kLet_eq (k2).symm (kif_t rfl (kLet_eq (k6).symm (kLet_eq (k30).symm (kif_t rfl (kC_eq k37 rfl)))))), hP.sub (ws' := [(h, oX11 x35 aw ai ab ac hi re aP ta po en be de fa a5 sp av an ak ne aW aC ag aT aN aF), (aw, kcI cI 2179 fw)]) [1, 0] rfl, hD.sub (ws' := [(h, oX11 x35 aw ai ab ac hi re aP ta po en be de fa a5 sp av an ak ne aW aC ag aT aN aF), (aw, kcI cI 2179 fw)]) [1, 0] (by decide) rfl, hS, lv_sub (l' := [(0, .ref h), (1, .int mm), (2, .int b)]) hl [0, 1, 2] rfl⟩
    · skip
      refine lv_if_ne (tgt := 33) hx hb dX11_shirt_26 (by decide) (fun _ => ?_) (fun c40 => absurd c40 (by decide))
      refine lv_iconst (v := 0) hx hb dX11_shirt_33 (by decide) ?_
      refine lv_iconst (v := 2) hx hb dX11_shirt_34 (by decide) ?_
      refine kpurei (wc := [(h, oX11 0 aw ai ab ac hi re aP ta po en be de fa a5 sp av an ak ne aW aC ag aT aN aF)]) hP hD hS hA [0] rfl (by decide) (fun hPc hDc hFc => va_runV (As := [.int 0, .int 2]) (rest := []) ⟨hx, hb, hml, hown, hts⟩ (r_throwsIf0_1 l D cI cJ cB cC h 0 aw ai ab ac hi re aP ta po en be de fa a5 sp av an ak ne aW aC ag aT aN aF 2 H.size) (cwV 2 hts gX11_shirt_X11_throwsIf rfl rfl rfl ⟨rfl, hdX11_throwsIf⟩ ⟨Nat.le_of_ble_eq_true rfl, Nat.le_of_ble_eq_true rfl⟩) ⟨kBlind, va_recv hK hPc (ci := 10) (q0 := 0) rfl rfl, fun U hU hW => ⟨rfl, by rw [hU], hN.warm hW, hE.pass hS hFc hW hU, by rw [hU]; exact hPc, va_K.moved hW.alike hK, hDc⟩⟩ rfl rfl hl.1 rfl (lv_room (Nat.le_of_ble_eq_true rfl)) dX11_shirt_35 ⟨Nat.le_of_ble_eq_true rfl, Nat.le_of_ble_eq_true rfl⟩) (fun r41 u H locs hw hP hS => ?_)
      obtain ⟨k42, k43⟩ := hw
      refine lv_if_eq (tgt := 45) hx hb dX11_shirt_38 (by decide) (fun _ => ?_) (fun c44 => absurd (rg_eq k42 (rg_lit (n := 0) (by decide)) (by decide)) c44)
      refine lv_aload_n hx hb dX11_shirt_45 rfl (lv_at hl 0 rfl) ?_
      refine lv_iload_n hx hb dX11_shirt_46 rfl (lv_at hl 1 rfl) ?_
      refine lv_iload_n hx hb dX11_shirt_47 rfl (lv_at hl 2 rfl) ?_
      refine kpurei (wc := [(h, oX11 0 aw ai ab ac hi re aP ta po en be de fa a5 sp av an ak ne aW aC ag aT aN aF), (aw, kcI cI 2179 fw)]) hP hD hS hA [0, 1] rfl (by decide) (fun hPc hDc hFc => va_runV (As := [.int mm, .int b]) (rest := []) ⟨hx, hb, hml, hown, hts⟩ (r_of l D cI cJ cB cC h 0 aw ai ab ac hi re aP ta po en be de fa a5 sp av an ak ne aW aC ag aT aN aF fw mm b H.size kc3_0 kc31_0 H_fw_W) (cwV 2 hts gX11_shirt_X11_of rfl rfl rfl ⟨rfl, hdX11_of⟩ ⟨Nat.le_of_ble_eq_true rfl, Nat.le_of_ble_eq_true rfl⟩) ⟨kBlind, va_recv hK hPc (ci := 10) (q0 := 0) rfl rfl, fun U hU hW => ⟨rfl, by rw [hU], hN.warm hW, hE.pass hS hFc hW hU, by rw [hU]; exact hPc, va_K.moved hW.alike hK, hDc⟩⟩ rfl rfl hl.1 rfl (lv_room (Nat.le_of_ble_eq_true rfl)) dX11_shirt_48 ⟨Nat.le_of_ble_eq_true rfl, Nat.le_of_ble_eq_true rfl⟩) (fun r45 u H locs hw hP hS => ?_)
      have k46 := hw
      exact hJ51 (r45, (0 : Int32)) _ _ _ ⟨(kLet_eq (k2).symm (kif_t rfl (kLet_eq (k6).symm (kLet_eq (k30).symm (kif_f (by decide) (kLet_eq (k43).symm (kLet_eq (k46).symm rfl))))))), hP.sub (ws' := [(h, oX11 0 aw ai ab ac hi re aP ta po en be de fa a5 sp av an ak ne aW aC ag aT aN aF), (aw, kcI cI 2179 fw)]) [0, 1] rfl, hD.sub (ws' := [(h, oX11 0 aw ai ab ac hi re aP ta po en be de fa a5 sp av an ak ne aW aC ag aT aN aF), (aw, kcI cI 2179 fw)]) [0, 1] (by decide) rfl, hS, lv_sub (l' := [(0, .ref h), (1, .int mm), (2, .int b)]) hl [0, 1, 2] rfl⟩
  · skip
    refine lv_iconst (v := 1) hx hb dX11_shirt_11 (by decide) ?_
    refine kcalli (wc := [(h, oX11 0 aw ai ab ac hi re aP ta po en be de fa a5 sp av an ak ne aW aC ag aT aN aF)]) (wr := [(aw, kcI cI 2179 fw)]) hP hD hS hA [0] [1] rfl rfl (by decide) (by decide) (by decide) (fun hPc hDc hFc => va_runV (As := [.int 1, .int 1]) (rest := []) ⟨hx, hb, hml, hown, hts⟩ (r_throwsIf1_1 l D cI cJ cB cC h 0 aw ai ab ac hi re aP ta po en be de fa a5 sp av an ak ne aW aC ag aT aN aF 1 H.size) (cwV 2 hts gX11_shirt_X11_throwsIf rfl rfl rfl ⟨rfl, hdX11_throwsIf⟩ ⟨Nat.le_of_ble_eq_true rfl, Nat.le_of_ble_eq_true rfl⟩) ⟨kBlind, va_recv hK hPc (ci := 10) (q0 := 0) rfl rfl, fun U hU hW => ⟨rfl, by rw [hU], hN.warm hW, hE.pass hS hFc hW hU, by rw [hU]; exact hPc, va_K.moved hW.alike hK, hDc⟩⟩ rfl rfl hl.1 rfl (lv_room (Nat.le_of_ble_eq_true rfl)) dX11_shirt_12 ⟨Nat.le_of_ble_eq_true rfl, Nat.le_of_ble_eq_true rfl⟩) (fun r47 u H locs hw hP hD hS => ?_)
    obtain ⟨x48, rfl⟩ : ∃ z, z = u := ⟨_, rfl⟩
    have hP : va_P D vwCl [(aw, kcI cI 2179 fw), (h, oX11 x48 aw ai ab ac hi re aP ta po en be de fa a5 sp av an ak ne aW aC ag aT aN aF)] H := hP
    have hD : va_D A [(aw, kcI cI 2179 fw), (h, oX11 x48 aw ai ab ac hi re aP ta po en be de fa a5 sp av an ak ne aW aC ag aT aN aF)] := hD
    obtain ⟨k49, k50⟩ := hw
    refine lv_if_ne (tgt := 41) hx hb dX11_shirt_15 (by decide) (fun _ => ?_) (fun c52 => absurd c52 (rg_neq k49 (rg_lit (n := 0) (by decide)) (by decide)))
    refine lv_iconst (v := 0) hx hb dX11_shirt_41 (by decide) ?_
    refine lv_goto (tgt := 51) hx hb dX11_shirt_42 (by decide) ?_
    have hP9 := hP.sub (ws' := [(h, oX11 x48 aw ai ab ac hi re aP ta po en be de fa a5 sp av an ak ne aW aC ag aT aN aF), (aw, kcI cI 2179 fw)]) [1, 0] rfl
    have hD9 := hD.sub (ws' := [(h, oX11 x48 aw ai ab ac hi re aP ta po en be de fa a5 sp av an ak ne aW aC ag aT aN aF), (aw, kcI cI 2179 fw)]) [1, 0] (by decide) rfl
    exact W.iret (v := 0) hx hb hr (fun t ht hW => ⟨⟨0, (x48), rfl, (kLet_eq (k2).symm (kif_f (by decide) (kC_eq k50 rfl))), by rw [ht]; exact hP9, va_K.moved hW.alike hK, hD9⟩, hS.F ht⟩) hS.2.2 dX11_shirt_51

def kwX11_ledger : List Cond := .code yX11_ledger cX11_ledger 3 (some .int) :: kG
theorem hdX11_ledger : yX11_ledger.cls ≠ "java/lang/invoke/MethodHandle" ∧ yX11_ledger.cls ≠ "java/lang/invoke/VarHandle" ∧ (parseMethodDescriptor yX11_ledger.desc).map (fun d => d.parameters.length) = some 2 := by decide +kernel
theorem gX11_ledger_X11_in : GoodIn kG (va_wsS RX11 75 yX11_in kwX11_in) := gK w27_8 (gK w27_9 (gK w0_5 (gK w27_10 gGG)))
theorem gX11_ledger_X11_noShirt : GoodIn kG (wsV RX11 283 RX11 yX11_noShirt kwX11_noShirt) := gK w28_12 (gK w28_13 (gK w28_14 (gK w0_5 (gK w28_15 gGG))))
theorem gX11_ledger_X11_throwsIf : GoodIn kG (wsV RX11 258 RX11 yX11_throwsIf kwX11_throwsIf) := gK w23_6 (gK w23_7 (gK w23_8 (gK w0_5 (gK w23_9 gGG))))
theorem dX11_ledger_0 : decode cX11_ledger 0 = .ok (.aload_n 0, 1) := by decide +kernel
theorem dX11_ledger_1 : decode cX11_ledger 1 = .ok (.iconst 0, 1) := by decide +kernel
theorem dX11_ledger_2 : decode cX11_ledger 2 = .ok (.putfield 3, 3) := by decide +kernel
theorem dX11_ledger_5 : decode cX11_ledger 5 = .ok (.aload_n 0, 1) := by decide +kernel
theorem dX11_ledger_6 : decode cX11_ledger 6 = .ok (.aload_n 0, 1) := by decide +kernel
theorem dX11_ledger_7 : decode cX11_ledger 7 = .ok (.iload_n 2, 1) := by decide +kernel
theorem dX11_ledger_8 : decode cX11_ledger 8 = .ok (.invokevirtual 283, 3) := by decide +kernel
theorem dX11_ledger_11 : decode cX11_ledger 11 = .ok (.iconst 1, 1) := by decide +kernel
theorem dX11_ledger_12 : decode cX11_ledger 12 = .ok (.invokevirtual 258, 3) := by decide +kernel
theorem dX11_ledger_15 : decode cX11_ledger 15 = .ok (.ifCond .eq 5, 3) := by decide +kernel
theorem dX11_ledger_18 : decode cX11_ledger 18 = .ok (.iconst 0, 1) := by decide +kernel
theorem dX11_ledger_19 : decode cX11_ledger 19 = .ok (.ireturn, 1) := by decide +kernel
theorem dX11_ledger_20 : decode cX11_ledger 20 = .ok (.iload_n 1, 1) := by decide +kernel
theorem dX11_ledger_21 : decode cX11_ledger 21 = .ok (.iconst 0, 1) := by decide +kernel
theorem dX11_ledger_22 : decode cX11_ledger 22 = .ok (.aload_n 0, 1) := by decide +kernel
theorem dX11_ledger_23 : decode cX11_ledger 23 = .ok (.getfield 13, 3) := by decide +kernel
theorem dX11_ledger_26 : decode cX11_ledger 26 = .ok (.bipush 10, 2) := by decide +kernel
theorem dX11_ledger_28 : decode cX11_ledger 28 = .ok (.iaload, 1) := by decide +kernel
theorem dX11_ledger_29 : decode cX11_ledger 29 = .ok (.iconst 1, 1) := by decide +kernel
theorem dX11_ledger_30 : decode cX11_ledger 30 = .ok (.isub, 1) := by decide +kernel
theorem dX11_ledger_31 : decode cX11_ledger 31 = .ok (.invokestatic 75, 3) := by decide +kernel
theorem dX11_ledger_34 : decode cX11_ledger 34 = .ok (.ifCond .eq 21, 3) := by decide +kernel
theorem dX11_ledger_37 : decode cX11_ledger 37 = .ok (.aload_n 0, 1) := by decide +kernel
theorem dX11_ledger_38 : decode cX11_ledger 38 = .ok (.getfield 13, 3) := by decide +kernel
theorem dX11_ledger_41 : decode cX11_ledger 41 = .ok (.sipush 145, 3) := by decide +kernel
theorem dX11_ledger_44 : decode cX11_ledger 44 = .ok (.bipush 12, 2) := by decide +kernel
theorem dX11_ledger_46 : decode cX11_ledger 46 = .ok (.iload_n 1, 1) := by decide +kernel
theorem dX11_ledger_47 : decode cX11_ledger 47 = .ok (.imul, 1) := by decide +kernel
theorem dX11_ledger_48 : decode cX11_ledger 48 = .ok (.iadd, 1) := by decide +kernel
theorem dX11_ledger_49 : decode cX11_ledger 49 = .ok (.iload_n 2, 1) := by decide +kernel
theorem dX11_ledger_50 : decode cX11_ledger 50 = .ok (.iadd, 1) := by decide +kernel
theorem dX11_ledger_51 : decode cX11_ledger 51 = .ok (.iaload, 1) := by decide +kernel
theorem dX11_ledger_52 : decode cX11_ledger 52 = .ok (.goto 4, 3) := by decide +kernel
theorem dX11_ledger_55 : decode cX11_ledger 55 = .ok (.iconst (-1), 1) := by decide +kernel
theorem dX11_ledger_56 : decode cX11_ledger 56 = .ok (.ireturn, 1) := by decide +kernel
set_option maxHeartbeats 4000000 in
set_option maxRecDepth 100000 in
/-- reference: ledger -/
theorem r_ledger (l : Launch) (D : va_G) (cI cJ cB cC : ClassId) (h : Nat) (th : Int32) (aw : Nat) (ai : Nat) (ab : Nat) (ac : Nat) (hi : Int32) (re : Int32) (aP : Nat) (ta : Int32) (po : Int32) (en : Int32) (be : Int32) (de : Int32) (fa : Int32) (a5 : Nat) (sp : Int32) (av : Nat) (an : Nat) (ak : Nat) (ne : Int32) (aW : Nat) (aC : Nat) (ag : Nat) (aT : Nat) (aN : Nat) (aF : Nat) (fw : Nat → Int32) (mm : Int32) (b : Int32) (sz : Nat) (H_fw_W : wW fw) : Met l yX11_ledger kwX11_ledger ({ frames := 2, cells := 0, slots := 0, locals := 43 } : Room) (kPre D (kT cI cJ cB cC) sz [(h, oX11 th aw ai ab ac hi re aP ta po en be de fa a5 sp av an ak ne aW aC ag aT aN aF), (aw, kcI cI 2179 fw)] [.ref h, .int mm, .int b]) (va_Qi (fun (r : Int32) (n0_ : Int32) => F_r_ledger (gT fw) (mm : Int32).toInt (b : Int32).toInt = ((r : Int32).toInt, (n0_ : Int32).toInt)) (fun (n0_ : Int32) (t : State) => kB D (kT cI cJ cB cC) (va_A [(h, oX11 th aw ai ab ac hi re aP ta po en be de fa a5 sp av an ak ne aW aC ag aT aN aF), (aw, kcI cI 2179 fw)] sz) [(h, oX11 n0_ aw ai ab ac hi re aP ta po en be de fa a5 sp av an ak ne aW aC ag aT aN aF), (aw, kcI cI 2179 fw)] t) (va_A [(h, oX11 th aw ai ab ac hi re aP ta po en be de fa a5 sp av an ak ne aW aC ag aT aN aF), (aw, kcI cI 2179 fw)] sz)) 0 0 (va_A [(h, oX11 th aw ai ab ac hi re aP ta po en be de fa a5 sp av an ak ne aW aC ag aT aN aF), (aw, kcI cI 2179 fw)] sz) := by
  refine Met.ofW (cc := cX11_ledger) (maxL := 3) (ret := (some .int)) (by decide) rfl ?_
  intro p e s m args below meth c s₁ B hml hv
  obtain ⟨rfl, hsz, hN, hE, hP, hK, hD0⟩ := hv
  have hx := B.exec
  have hb := B.bytes
  have hr := B.returns
  have hts := fun (w : Cond) (h : w ∈ kG) => atoms_spec (ws := kwX11_ledger) B.pre w (List.mem_cons_of_mem _ h)
  have hown : s.vm.findClass RX11 = some m.cls := findClass_of_methodNamed B.named
  subst hsz
  have hD := hD0.self (sz := s.heap.size)
  generalize hAe : va_A [(h, oX11 th aw ai ab ac hi re aP ta po en be de fa a5 sp av an ak ne aW aC ag aT aN aF), (aw, kcI cI 2179 fw)] s.heap.size = A at hD hE ⊢
  have hA : ∀ q : Nat, s.heap.size ≤ q → A q := fun q h => by rw [← hAe]; exact Or.inr h
  have hl := lv_entry ([.ref h, .int mm, .int b]) (n := 3) (Nat.le_of_ble_eq_true rfl)
  rw [lg_entry_eq]
  generalize (lg_sl ([.ref h, .int mm, .int b]) ++ List.replicate (3 - (lg_sl ([.ref h, .int mm, .int b])).length) Slot.unset).toArray = ls at hl ⊢
  have hl : lv_has ls 3 [(0, .ref h), (1, .int mm), (2, .int b)] := hl
  obtain ⟨H, hH0⟩ : ∃ H, H = s.heap := ⟨_, rfl⟩
  have hS : va_S A s.heap H [] := by rw [hH0]; exact va_S.rf
  have hP : va_P D vwCl [(h, oX11 th aw ai ab ac hi re aP ta po en be de fa a5 sp av an ak ne aW aC ag aT aN aF), (aw, kcI cI 2179 fw)] H := by rw [hH0]; exact hP
  refine kHeap hH0 ?_
  clear hH0
  refine lv_aload_n hx hb dX11_ledger_0 rfl (lv_at hl 0 rfl) ?_
  refine lv_iconst (v := 0) hx hb dX11_ledger_1 (by decide) ?_
  refine va_put (D := D) (ci := 10) (v := .int 0) (ty := .int) (C := RX11) (T := TX11) (N := 26) hx hb hts iG_X11 tyX11 tyX11_ok nmX11 hown hK hP hD hS 0 rfl rfl 0 (by decide) (hts _ w6_8) (fun _ h9 => h9) rfl (by decide +kernel) rfl rfl (Nat.le_of_ble_eq_true rfl) dX11_ledger_2 (fun H locs hP hD hS => ?_)
  have hP : va_P D vwCl [(h, oX11 0 aw ai ab ac hi re aP ta po en be de fa a5 sp av an ak ne aW aC ag aT aN aF), (aw, kcI cI 2179 fw)] H := hP
  have hD : va_D A [(h, oX11 0 aw ai ab ac hi re aP ta po en be de fa a5 sp av an ak ne aW aC ag aT aN aF), (aw, kcI cI 2179 fw)] := hD
  refine lv_aload_n hx hb dX11_ledger_5 rfl (lv_at hl 0 rfl) ?_
  refine lv_aload_n hx hb dX11_ledger_6 rfl (lv_at hl 0 rfl) ?_
  refine lv_iload_n hx hb dX11_ledger_7 rfl (lv_at hl 2 rfl) ?_
  refine kpurei (wc := [(h, oX11 0 aw ai ab ac hi re aP ta po en be de fa a5 sp av an ak ne aW aC ag aT aN aF), (aw, kcI cI 2179 fw)]) hP hD hS hA [0, 1] rfl (by decide) (fun hPc hDc hFc => va_runV (As := [.int b]) (rest := [.ref h]) ⟨hx, hb, hml, hown, hts⟩ (r_noShirt l D cI cJ cB cC h 0 aw ai ab ac hi re aP ta po en be de fa a5 sp av an ak ne aW aC ag aT aN aF fw b H.size H_fw_W) (cwV 1 hts gX11_ledger_X11_noShirt rfl rfl rfl ⟨rfl, hdX11_noShirt⟩ ⟨Nat.le_of_ble_eq_true rfl, Nat.le_of_ble_eq_true rfl⟩) ⟨kBlind, va_recv hK hPc (ci := 10) (q0 := 0) rfl rfl, fun U hU hW => ⟨rfl, by rw [hU], hN.warm hW, hE.pass hS hFc hW hU, by rw [hU]; exact hPc, va_K.moved hW.alike hK, hDc⟩⟩ rfl rfl hl.1 rfl (lv_room (Nat.le_of_ble_eq_true rfl)) dX11_ledger_8 ⟨Nat.le_of_ble_eq_true rfl, Nat.le_of_ble_eq_true rfl⟩) (fun r1 u H locs hw hP hS => ?_)
  obtain ⟨k2, hw⟩ := hw
  rcases hw with ⟨rfl, kc3_0, kc3_1⟩ | rfl
  · skip
    refine lv_iconst (v := 1) hx hb dX11_ledger_11 (by decide) ?_
    refine kpurei (wc := [(h, oX11 0 aw ai ab ac hi re aP ta po en be de fa a5 sp av an ak ne aW aC ag aT aN aF)]) hP hD hS hA [0] rfl (by decide) (fun hPc hDc hFc => va_runV (As := [.int 0, .int 1]) (rest := []) ⟨hx, hb, hml, hown, hts⟩ (r_throwsIf0_1 l D cI cJ cB cC h 0 aw ai ab ac hi re aP ta po en be de fa a5 sp av an ak ne aW aC ag aT aN aF 1 H.size) (cwV 2 hts gX11_ledger_X11_throwsIf rfl rfl rfl ⟨rfl, hdX11_throwsIf⟩ ⟨Nat.le_of_ble_eq_true rfl, Nat.le_of_ble_eq_true rfl⟩) ⟨kBlind, va_recv hK hPc (ci := 10) (q0 := 0) rfl rfl, fun U hU hW => ⟨rfl, by rw [hU], hN.warm hW, hE.pass hS hFc hW hU, by rw [hU]; exact hPc, va_K.moved hW.alike hK, hDc⟩⟩ rfl rfl hl.1 rfl (lv_room (Nat.le_of_ble_eq_true rfl)) dX11_ledger_12 ⟨Nat.le_of_ble_eq_true rfl, Nat.le_of_ble_eq_true rfl⟩) (fun r4 u H locs hw hP hS => ?_)
    obtain ⟨k5, k6⟩ := hw
    refine lv_if_eq (tgt := 20) hx hb dX11_ledger_15 (by decide) (fun _ => ?_) (fun c7 => absurd (rg_eq k5 (rg_lit (n := 0) (by decide)) (by decide)) c7)
    refine lv_iload_n hx hb dX11_ledger_20 rfl (lv_at hl 1 rfl) ?_
    refine lv_iconst (v := 0) hx hb dX11_ledger_21 (by decide) ?_
    refine lv_aload_n hx hb dX11_ledger_22 rfl (lv_at hl 0 rfl) ?_
    refine va_get (D := D) (ci := 10) (v := .ref aw) (C := RX11) (T := TX11) (N := 26) hx hb hts iG_X11 hown hK hP 0 rfl rfl 1 (by decide) (hts _ w5_3) (fun _ h9 => h9) rfl dX11_ledger_23 ?_
    refine lv_bipush (v := 10) hx hb dX11_ledger_26 (by decide) ?_
    refine va_iald hx hb hK hP 1 0 rfl rfl (rg_in (rg_lit (n := 10) (by decide)) (by decide)) dX11_ledger_28 ?_
    refine lv_topi (fun x8 ex8 => ?_)
    have k9 : Rg x8 0 30 := wW_10 H_fw_W ex8
    refine lv_iconst (v := 1) hx hb dX11_ledger_29 (by decide) ?_
    refine lv_isub hx hb dX11_ledger_30 ?_
    refine lv_topi (fun x10 ex10 => ?_)
    have k11 : Rg x10 (-1) 29 := rg_sub ex10 k9 (rg_lit (n := 1) (by decide)) (by decide)
    refine kpurei (wc := []) hP hD hS hA [] rfl (by decide) (fun hPc hDc hFc => va_runS (As := [.int mm, .int 0, .int x10]) (rest := []) ⟨hx, hb, hml, hown, hts⟩ (r_in_rows l D cI cJ cB cC mm x10 H.size k11) (va_cwS 3 hts gX11_ledger_X11_in rfl rfl rfl hdX11_in ⟨Nat.le_of_ble_eq_true rfl, Nat.le_of_ble_eq_true rfl⟩) ⟨kBlind, fun U hU hW => ⟨rfl, by rw [hU], hN.warm hW, hE.pass hS hFc hW hU, by rw [hU]; exact hPc, va_K.moved hW.alike hK, hDc⟩⟩ rfl rfl hl.1 rfl (lv_room (Nat.le_of_ble_eq_true rfl)) dX11_ledger_31 ⟨Nat.le_of_ble_eq_true rfl, Nat.le_of_ble_eq_true rfl⟩) (fun r12 u H locs hw hP hS => ?_)
    obtain ⟨k13, hw⟩ := hw
    rcases hw with rfl | ⟨rfl, kc14_0, kc14_1, kc14_2⟩
    · skip
      refine lv_if_eq (tgt := 55) hx hb dX11_ledger_34 (by decide) (fun _ => ?_) (fun c16 => absurd (by decide) c16)
      refine lv_iconst (v := (-1)) hx hb dX11_ledger_55 (by decide) ?_
      have hP9 := hP.sub (ws' := [(h, oX11 0 aw ai ab ac hi re aP ta po en be de fa a5 sp av an ak ne aW aC ag aT aN aF), (aw, kcI cI 2179 fw)]) [0, 1] rfl
      have hD9 := hD.sub (ws' := [(h, oX11 0 aw ai ab ac hi re aP ta po en be de fa a5 sp av an ak ne aW aC ag aT aN aF), (aw, kcI cI 2179 fw)]) [0, 1] (by decide) rfl
      exact W.iret (v := (-1)) hx hb hr (fun t ht hW => ⟨⟨(-1), ((0 : Int32)), rfl, (kLet_eq (k2).symm (kif_t rfl (kLet_eq (k6).symm (kLet_eq (ke_ld ex8) (kLet_eq (ti_sub ex10 k9 (rg_lit (n := 1) (by decide)) (by decide) rfl rfl) (kLet_eq (k13).symm (kif_t rfl rfl))))))), by rw [ht]; exact hP9, va_K.moved hW.alike hK, hD9⟩, hS.F ht⟩) hS.2.2 dX11_ledger_56
    · skip
      refine lv_if_eq (tgt := 55) hx hb dX11_ledger_34 (by decide) (fun c25 => absurd c25 (by decide)) (fun _ => ?_)
      refine lv_aload_n hx hb dX11_ledger_37 rfl (lv_at hl 0 rfl) ?_
      refine va_get (D := D) (ci := 10) (v := .ref aw) (C := RX11) (T := TX11) (N := 26) hx hb hts iG_X11 hown hK hP 0 rfl rfl 1 (by decide) (hts _ w5_3) (fun _ h9 => h9) rfl dX11_ledger_38 ?_
      refine lv_sipush (v := 145) hx hb dX11_ledger_41 (by decide) ?_
      refine lv_bipush (v := 12) hx hb dX11_ledger_44 (by decide) ?_
      refine lv_iload_n hx hb dX11_ledger_46 rfl (lv_at hl 1 rfl) ?_
      refine lv_imul hx hb dX11_ledger_47 ?_
      refine lv_topi (fun x26 ex26 => ?_)
      have k27 : Rg x26 0 348 := rg_mul ex26 (rg_lit (n := 12) (by decide)) kc14_0 (by decide)
      refine lv_iadd hx hb dX11_ledger_48 ?_
      refine lv_topi (fun x28 ex28 => ?_)
      have k29 : Rg x28 145 493 := rg_add ex28 (rg_lit (n := 145) (by decide)) k27 (by decide)
      refine lv_iload_n hx hb dX11_ledger_49 rfl (lv_at hl 2 rfl) ?_
      refine lv_iadd hx hb dX11_ledger_50 ?_
      refine lv_topi (fun x30 ex30 => ?_)
      have k31 : Rg x30 145 504 := rg_add ex30 k29 kc3_0 (by decide)
      refine va_iald hx hb hK hP 1 0 rfl rfl (rg_in k31 (by decide)) dX11_ledger_51 ?_
      refine lv_topi (fun x32 ex32 => ?_)
      refine lv_goto (tgt := 56) hx hb dX11_ledger_52 (by decide) ?_
      have hP9 := hP.sub (ws' := [(h, oX11 0 aw ai ab ac hi re aP ta po en be de fa a5 sp av an ak ne aW aC ag aT aN aF), (aw, kcI cI 2179 fw)]) [0, 1] rfl
      have hD9 := hD.sub (ws' := [(h, oX11 0 aw ai ab ac hi re aP ta po en be de fa a5 sp av an ak ne aW aC ag aT aN aF), (aw, kcI cI 2179 fw)]) [0, 1] (by decide) rfl
      exact W.iret (v := x32) hx hb hr (fun t ht hW => ⟨⟨x32, ((0 : Int32)), rfl, (kLet_eq (k2).symm (kif_t rfl (kLet_eq (k6).symm (kLet_eq (ke_ld ex8) (kLet_eq (ti_sub ex10 k9 (rg_lit (n := 1) (by decide)) (by decide) rfl rfl) (kLet_eq (k13).symm (kif_f (by decide) (kLet_eq (ti_mul ex26 (rg_lit (n := 12) (by decide)) kc14_0 (by decide) rfl rfl) (kLet_eq (ti_add ex28 (rg_lit (n := 145) (by decide)) k27 (by decide) rfl rfl) (kLet_eq (ti_add ex30 k29 kc3_0 (by decide) rfl rfl) (kLet_eq (ke_ld ex32) rfl))))))))))), by rw [ht]; exact hP9, va_K.moved hW.alike hK, hD9⟩, hS.F ht⟩) hS.2.2 dX11_ledger_56
  · skip
    refine lv_iconst (v := 1) hx hb dX11_ledger_11 (by decide) ?_
    refine kcalli (wc := [(h, oX11 0 aw ai ab ac hi re aP ta po en be de fa a5 sp av an ak ne aW aC ag aT aN aF)]) (wr := [(aw, kcI cI 2179 fw)]) hP hD hS hA [0] [1] rfl rfl (by decide) (by decide) (by decide) (fun hPc hDc hFc => va_runV (As := [.int 1, .int 1]) (rest := []) ⟨hx, hb, hml, hown, hts⟩ (r_throwsIf1_1 l D cI cJ cB cC h 0 aw ai ab ac hi re aP ta po en be de fa a5 sp av an ak ne aW aC ag aT aN aF 1 H.size) (cwV 2 hts gX11_ledger_X11_throwsIf rfl rfl rfl ⟨rfl, hdX11_throwsIf⟩ ⟨Nat.le_of_ble_eq_true rfl, Nat.le_of_ble_eq_true rfl⟩) ⟨kBlind, va_recv hK hPc (ci := 10) (q0 := 0) rfl rfl, fun U hU hW => ⟨rfl, by rw [hU], hN.warm hW, hE.pass hS hFc hW hU, by rw [hU]; exact hPc, va_K.moved hW.alike hK, hDc⟩⟩ rfl rfl hl.1 rfl (lv_room (Nat.le_of_ble_eq_true rfl)) dX11_ledger_12 ⟨Nat.le_of_ble_eq_true rfl, Nat.le_of_ble_eq_true rfl⟩) (fun r33 u H locs hw hP hD hS => ?_)
    obtain ⟨x34, rfl⟩ : ∃ z, z = u := ⟨_, rfl⟩
    have hP : va_P D vwCl [(aw, kcI cI 2179 fw), (h, oX11 x34 aw ai ab ac hi re aP ta po en be de fa a5 sp av an ak ne aW aC ag aT aN aF)] H := hP
    have hD : va_D A [(aw, kcI cI 2179 fw), (h, oX11 x34 aw ai ab ac hi re aP ta po en be de fa a5 sp av an ak ne aW aC ag aT aN aF)] := hD
    obtain ⟨k35, k36⟩ := hw
    refine lv_if_eq (tgt := 20) hx hb dX11_ledger_15 (by decide) (fun c37 => absurd c37 (rg_neq k35 (rg_lit (n := 0) (by decide)) (by decide))) (fun _ => ?_)
    refine lv_iconst (v := 0) hx hb dX11_ledger_18 (by decide) ?_
    have hP9 := hP.sub (ws' := [(h, oX11 x34 aw ai ab ac hi re aP ta po en be de fa a5 sp av an ak ne aW aC ag aT aN aF), (aw, kcI cI 2179 fw)]) [1, 0] rfl
    have hD9 := hD.sub (ws' := [(h, oX11 x34 aw ai ab ac hi re aP ta po en be de fa a5 sp av an ak ne aW aC ag aT aN aF), (aw, kcI cI 2179 fw)]) [1, 0] (by decide) rfl
    exact W.iret (v := 0) hx hb hr (fun t ht hW => ⟨⟨0, (x34), rfl, (kLet_eq (k2).symm (kif_f (by decide) (kC_eq k36 rfl))), by rw [ht]; exact hP9, va_K.moved hW.alike hK, hD9⟩, hS.F ht⟩) hS.2.2 dX11_ledger_19

