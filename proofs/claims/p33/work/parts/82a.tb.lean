set_option maxHeartbeats 4000000 in
set_option maxRecDepth 100000 in
/-- reference: allWays -/
theorem r_allWaysx (l : Launch) (D : va_G) (cI cJ cB cC : ClassId) (h : Nat) (th : Int32) (aw : Nat) (ai : Nat) (ab : Nat) (ac : Nat) (hi : Int32) (re : Int32) (aP : Nat) (ta : Int32) (po : Int32) (en : Int32) (be : Int32) (de : Int32) (fa : Int32) (a5 : Nat) (sp : Int32) (av : Nat) (an : Nat) (ak : Nat) (ne : Int32) (aW : Nat) (aC : Nat) (ag : Nat) (aT : Nat) (aN : Nat) (aF : Nat) (fw : Nat → Int32) (fv : Nat → Int32) (fn : Nat → Int32) (fk : Nat → Int32) (fW : Nat → Int64) (sz : Nat) (H_fw_W : wW fw) (H_fw_L : wL fw) (H_fn_N : wN fn) (H_fk_K : wK fk) : Met l yX11_allWays kwX11_allWays ({ frames := 8, cells := 0, slots := 0, locals := 188 } : Room) (kPre D (kT cI cJ cB cC) sz [(h, oX11 th aw ai ab ac hi re aP ta po en be de fa a5 sp av an ak ne aW aC ag aT aN aF), (aw, .inl (cI, 2179, .inl fw)), (av, .inl (cI, 400, .inl fv)), (an, .inl (cI, 10, .inl fn)), (ak, .inl (cI, 10, .inl fk)), (aW, .inl (cJ, 4096, .inr (.inl fW)))] [.ref h]) (va_Ql (fun (r : Int64) (uu : Int32 × (Nat → Int32) × (Nat → Int32) × (Nat → Int32) × (Nat → Int64)) => match uu with | (n0_, f1_, f2_, f3_, f4_) => Rg n0_ 0 10 ∧ wN f2_ ∧ wK f3_ ∧ (tW f4_ f3_ (cN n0_) (cN (fw 1)) 0) ∧ (lkP fw f2_ f3_ n0_ (cN (fw 0))) ∧ (r = f4_ 0)) (fun (uu : Int32 × (Nat → Int32) × (Nat → Int32) × (Nat → Int32) × (Nat → Int64)) (t : State) => match uu with | (n0_, f1_, f2_, f3_, f4_) => kB D (kT cI cJ cB cC) (va_A [(h, oX11 th aw ai ab ac hi re aP ta po en be de fa a5 sp av an ak ne aW aC ag aT aN aF), (aw, .inl (cI, 2179, .inl fw)), (av, .inl (cI, 400, .inl fv)), (an, .inl (cI, 10, .inl fn)), (ak, .inl (cI, 10, .inl fk)), (aW, .inl (cJ, 4096, .inr (.inl fW)))] sz) [(h, oX11 th aw ai ab ac hi re aP ta po en be de fa a5 sp av an ak n0_ aW aC ag aT aN aF), (aw, .inl (cI, 2179, .inl fw)), (av, .inl (cI, 400, .inl f1_)), (an, .inl (cI, 10, .inl f2_)), (ak, .inl (cI, 10, .inl f3_)), (aW, .inl (cJ, 4096, .inr (.inl f4_)))] t) (va_A [(h, oX11 th aw ai ab ac hi re aP ta po en be de fa a5 sp av an ak ne aW aC ag aT aN aF), (aw, .inl (cI, 2179, .inl fw)), (av, .inl (cI, 400, .inl fv)), (an, .inl (cI, 10, .inl fn)), (ak, .inl (cI, 10, .inl fk)), (aW, .inl (cJ, 4096, .inr (.inl fW)))] sz)) 0 0 (va_A [(h, oX11 th aw ai ab ac hi re aP ta po en be de fa a5 sp av an ak ne aW aC ag aT aN aF), (aw, .inl (cI, 2179, .inl fw)), (av, .inl (cI, 400, .inl fv)), (an, .inl (cI, 10, .inl fn)), (ak, .inl (cI, 10, .inl fk)), (aW, .inl (cJ, 4096, .inr (.inl fW)))] sz) := by
  refine Met.ofW (cc := cX11_allWays) (maxL := 4) (ret := (some .long)) (by decide) rfl ?_
  intro p e s m args below meth c s₁ B hml hv
  obtain ⟨rfl, hsz, hN, hE, hP, hK, hD0⟩ := hv
  have hx := B.exec
  have hb := B.bytes
  have hr := B.returns
  have hts := fun (w : Cond) (h : w ∈ kG) => atoms_spec (ws := kwX11_allWays) B.pre w (List.mem_cons_of_mem _ h)
  have hown : s.vm.findClass RX11 = some m.cls := findClass_of_methodNamed B.named
  subst hsz
  have hD := hD0.self (sz := s.heap.size)
  generalize hAe : va_A [(h, oX11 th aw ai ab ac hi re aP ta po en be de fa a5 sp av an ak ne aW aC ag aT aN aF), (aw, .inl (cI, 2179, .inl fw)), (av, .inl (cI, 400, .inl fv)), (an, .inl (cI, 10, .inl fn)), (ak, .inl (cI, 10, .inl fk)), (aW, .inl (cJ, 4096, .inr (.inl fW)))] s.heap.size = A at hD hE ⊢
  have hA : ∀ q : Nat, s.heap.size ≤ q → A q := fun q h => by rw [← hAe]; exact Or.inr h
  have hl := lv_entry ([.ref h]) (n := 4) (Nat.le_of_ble_eq_true rfl)
  rw [lg_entry_eq]
  generalize (lg_sl ([.ref h]) ++ List.replicate (4 - (lg_sl ([.ref h])).length) Slot.unset).toArray = ls at hl ⊢
  have hl : lv_has ls 4 [(0, .ref h)] := hl
  obtain ⟨H, hH0⟩ : ∃ H, H = s.heap := ⟨_, rfl⟩
  have hS : va_S A s.heap H [] := by rw [hH0]; exact va_S.rf
  have hP : va_P D vwCl [(h, oX11 th aw ai ab ac hi re aP ta po en be de fa a5 sp av an ak ne aW aC ag aT aN aF), (aw, .inl (cI, 2179, .inl fw)), (av, .inl (cI, 400, .inl fv)), (an, .inl (cI, 10, .inl fn)), (ak, .inl (cI, 10, .inl fk)), (aW, .inl (cJ, 4096, .inr (.inl fW)))] H := by rw [hH0]; exact hP
  refine kHeap hH0 ?_
  clear hH0
  refine lv_aload_n hx hb dX11_allWays_0 rfl (lv_at hl 0 rfl) ?_
  refine kcallv (wc := [(h, oX11 th aw ai ab ac hi re aP ta po en be de fa a5 sp av an ak ne aW aC ag aT aN aF), (aw, .inl (cI, 2179, .inl fw)), (av, .inl (cI, 400, .inl fv)), (an, .inl (cI, 10, .inl fn)), (ak, .inl (cI, 10, .inl fk))]) (wr := [(aW, .inl (cJ, 4096, .inr (.inl fW)))]) hP hD hS hA [0, 1, 2, 3, 4] [5] rfl rfl (by decide) (by decide) (by decide) (fun hPc hDc hFc => va_runV (As := []) (rest := []) ⟨hx, hb, hml, hown, hts⟩ (r_looksx l D cI cJ cB cC h th aw ai ab ac hi re aP ta po en be de fa a5 sp av an ak ne aW aC ag aT aN aF fw fv fn fk H.size H_fw_W H_fw_L H_fn_N H_fk_K) (cwV 0 hts gX11_allWays_X11_looks rfl rfl rfl ⟨rfl, hdX11_looks⟩ ⟨Nat.le_of_ble_eq_true rfl, Nat.le_of_ble_eq_true rfl⟩) ⟨kBlind, va_recv hK hPc (ci := 10) (q0 := 0) rfl rfl, fun U hU hW => ⟨rfl, by rw [hU], hN.warm hW, hE.pass hS hFc hW hU, by rw [hU]; exact hPc, va_K.moved hW.alike hK, hDc⟩⟩ rfl rfl hl.1 rfl (lv_room (Nat.le_of_ble_eq_true rfl)) dX11_allWays_1 ⟨Nat.le_of_ble_eq_true rfl, Nat.le_of_ble_eq_true rfl⟩) (fun u H locs hw hP hD hS => ?_)
  obtain ⟨x1, g2, g3, g4⟩ := u
  have hP : va_P D vwCl [(aW, .inl (cJ, 4096, .inr (.inl fW))), (h, oX11 th aw ai ab ac hi re aP ta po en be de fa a5 sp av an ak x1 aW aC ag aT aN aF), (aw, .inl (cI, 2179, .inl fw)), (av, .inl (cI, 400, .inl g2)), (an, .inl (cI, 10, .inl g3)), (ak, .inl (cI, 10, .inl g4))] H := hP
  have hD : va_D A [(aW, .inl (cJ, 4096, .inr (.inl fW))), (h, oX11 th aw ai ab ac hi re aP ta po en be de fa a5 sp av an ak x1 aW aC ag aT aN aF), (aw, .inl (cI, 2179, .inl fw)), (av, .inl (cI, 400, .inl g2)), (an, .inl (cI, 10, .inl g3)), (ak, .inl (cI, 10, .inl g4))] := hD
  obtain ⟨k5, k6, k7, k8⟩ := hw
  refine lv_iconst (v := 1) hx hb dX11_allWays_4 (by decide) ?_
  refine lv_aload_n hx hb dX11_allWays_5 rfl (lv_at hl 0 rfl) ?_
  refine kpurei (wc := [(h, oX11 th aw ai ab ac hi re aP ta po en be de fa a5 sp av an ak x1 aW aC ag aT aN aF), (aw, .inl (cI, 2179, .inl fw))]) hP hD hS hA [1, 2] rfl (by decide) (fun hPc hDc hFc => va_runV (As := []) (rest := [.int 1]) ⟨hx, hb, hml, hown, hts⟩ (r_shirts l D cI cJ cB cC h th aw ai ab ac hi re aP ta po en be de fa a5 sp av an ak x1 aW aC ag aT aN aF fw H.size H_fw_W) (cwV 0 hts gX11_allWays_X11_shirts rfl rfl rfl ⟨rfl, hdX11_shirts⟩ ⟨Nat.le_of_ble_eq_true rfl, Nat.le_of_ble_eq_true rfl⟩) ⟨kBlind, va_recv hK hPc (ci := 10) (q0 := 0) rfl rfl, fun U hU hW => ⟨rfl, by rw [hU], hN.warm hW, hE.pass hS hFc hW hU, by rw [hU]; exact hPc, va_K.moved hW.alike hK, hDc⟩⟩ rfl rfl hl.1 rfl (lv_room (Nat.le_of_ble_eq_true rfl)) dX11_allWays_6 ⟨Nat.le_of_ble_eq_true rfl, Nat.le_of_ble_eq_true rfl⟩) (fun r9 u H locs hw hP hS => ?_)
  obtain ⟨k10, k11⟩ := hw
  refine lv_ishl hx hb dX11_allWays_9 ?_
  refine lv_topi (fun x12 ex12 => ?_)
  have k13 : Rg x12 1 4096 := rg_shl1 12 ex12 k11 (by decide)
  refine lv_iconst (v := 1) hx hb dX11_allWays_10 (by decide) ?_
  refine lv_isub hx hb dX11_allWays_11 ?_
  refine lv_topi (fun x14 ex14 => ?_)
  have tx14 : x14.toInt = x12.toInt - 1 := ti_sub ex14 k13 (rg_lit (n := 1) (by decide)) (by decide) rfl (by decide)
  have k15 : Rg x14 0 4095 := rg_sub ex14 k13 (rg_lit (n := 1) (by decide)) (by decide)
  refine lv_istore_n (lv' := [(1, .int x14), (0, .ref h)]) hx hb dX11_allWays_12 rfl hl (by decide) rfl (fun ls hl => ?_)
  refine k_loop (hd := 13) (fun (u : Int32 × (Nat → Int64)) => match u with | (y5336, g5337) => ((y5336).toInt - (-1)).toNat) (fun (u : Int32 × (Nat → Int64)) (H : Heap) (locs : List Loc) (ls : Array Slot) => match u with | (y5336, g5337) => (tW g5337 g4 (cN x1) (cN (fw 1)) ((y5336 : Int32).toInt + 1).toNat) ∧ ((y5336 : Int32).toInt < ((2 ^ cN (fw 1) : Nat) : Int)) ∧ (-1 ≤ (y5336 : Int32).toInt) ∧ Rg y5336 (-1) 4095 ∧ va_P D vwCl [(aW, .inl (cJ, 4096, .inr (.inl g5337))), (h, oX11 th aw ai ab ac hi re aP ta po en be de fa a5 sp av an ak x1 aW aC ag aT aN aF), (aw, .inl (cI, 2179, .inl fw)), (av, .inl (cI, 400, .inl g2)), (an, .inl (cI, 10, .inl g3)), (ak, .inl (cI, 10, .inl g4))] H ∧ va_D A [(aW, .inl (cJ, 4096, .inr (.inl g5337))), (h, oX11 th aw ai ab ac hi re aP ta po en be de fa a5 sp av an ak x1 aW aC ag aT aN aF), (aw, .inl (cI, 2179, .inl fw)), (av, .inl (cI, 400, .inl g2)), (an, .inl (cI, 10, .inl g3)), (ak, .inl (cI, 10, .inl g4))] ∧ va_S A s.heap H locs ∧ lv_has ls 4 [(1, .int y5336), (0, .ref h)]) (x14, fW) ⟨(by rw [← k10]; exact tW_top (shl_top ex12 ex14 k11).1), (by rw [← k10]; exact lt_p1 (shl_top ex12 ex14 k11).1), (by have q1 := k15; unfold Rg at q1; omega), (rg_w k15 (by decide)), hP.sub (ws' := [(aW, .inl (cJ, 4096, .inr (.inl fW))), (h, oX11 th aw ai ab ac hi re aP ta po en be de fa a5 sp av an ak x1 aW aC ag aT aN aF), (aw, .inl (cI, 2179, .inl fw)), (av, .inl (cI, 400, .inl g2)), (an, .inl (cI, 10, .inl g3)), (ak, .inl (cI, 10, .inl g4))]) [0, 1, 2, 3, 4, 5] rfl, hD.sub (ws' := [(aW, .inl (cJ, 4096, .inr (.inl fW))), (h, oX11 th aw ai ab ac hi re aP ta po en be de fa a5 sp av an ak x1 aW aC ag aT aN aF), (aw, .inl (cI, 2179, .inl fw)), (av, .inl (cI, 400, .inl g2)), (an, .inl (cI, 10, .inl g3)), (ak, .inl (cI, 10, .inl g4))]) [0, 1, 2, 3, 4, 5] (by decide) rfl, hS, lv_sub (l' := [(1, .int x14), (0, .ref h)]) hl [0, 1] rfl⟩ (fun u H locs ls hI ih5338 => ?_)
  clear hP hD hS hl
  obtain ⟨y5336, g5337⟩ := u
  obtain ⟨hX13_0, hX13_1, hX13_2, hy5336, hP, hD, hS, hl⟩ := hI
  have hP : va_P D vwCl [(aW, .inl (cJ, 4096, .inr (.inl g5337))), (h, oX11 th aw ai ab ac hi re aP ta po en be de fa a5 sp av an ak x1 aW aC ag aT aN aF), (aw, .inl (cI, 2179, .inl fw)), (av, .inl (cI, 400, .inl g2)), (an, .inl (cI, 10, .inl g3)), (ak, .inl (cI, 10, .inl g4))] H := hP
  have hD : va_D A [(aW, .inl (cJ, 4096, .inr (.inl g5337))), (h, oX11 th aw ai ab ac hi re aP ta po en be de fa a5 sp av an ak x1 aW aC ag aT aN aF), (aw, .inl (cI, 2179, .inl fw)), (av, .inl (cI, 400, .inl g2)), (an, .inl (cI, 10, .inl g3)), (ak, .inl (cI, 10, .inl g4))] := hD
  have hl : lv_has ls 4 [(1, .int y5336), (0, .ref h)] := hl
  refine lv_iload_n hx hb dX11_allWays_13 rfl (lv_at hl 0 rfl) ?_
  refine lv_if_lt (tgt := 122) hx hb dX11_allWays_14 (by decide) (fun c5339 => ?_) (fun c5339 => ?_)
  · skip
    have k5340 : Rg y5336 (-1) (-1) := rg_l1 (ltI c5339) hy5336 (rg_lit (n := 0) (by decide)) (by decide)
    refine lv_aload_n hx hb dX11_allWays_122 rfl (lv_at hl 1 rfl) ?_
    refine va_get (D := D) (ci := 10) (v := .ref aW) (C := RX11) (T := TX11) (N := 26) hx hb hts iG_X11 hown hK hP 1 rfl rfl 20 (by decide) (hts _ w5_14) (fun _ h9 => h9) rfl dX11_allWays_123 ?_
    refine lv_iconst (v := 0) hx hb dX11_allWays_126 (by decide) ?_
    refine va_lald hx hb hK hP 0 1 rfl rfl (rg_in (rg_lit (n := 0) (by decide)) (by decide)) dX11_allWays_127 ?_
    refine lv_topl (fun x5341 ex5341 => ?_)
    have hP9 := hP.sub (ws' := [(h, oX11 th aw ai ab ac hi re aP ta po en be de fa a5 sp av an ak x1 aW aC ag aT aN aF), (aw, .inl (cI, 2179, .inl fw)), (av, .inl (cI, 400, .inl g2)), (an, .inl (cI, 10, .inl g3)), (ak, .inl (cI, 10, .inl g4)), (aW, .inl (cJ, 4096, .inr (.inl g5337)))]) [1, 2, 3, 4, 5, 0] rfl
    have hD9 := hD.sub (ws' := [(h, oX11 th aw ai ab ac hi re aP ta po en be de fa a5 sp av an ak x1 aW aC ag aT aN aF), (aw, .inl (cI, 2179, .inl fw)), (av, .inl (cI, 400, .inl g2)), (an, .inl (cI, 10, .inl g3)), (ak, .inl (cI, 10, .inl g4)), (aW, .inl (cJ, 4096, .inr (.inl g5337)))]) [1, 2, 3, 4, 5, 0] (by decide) rfl
    exact W.lret (v := x5341) hx hb hr (fun t ht hW => ⟨⟨x5341, (x1, g2, g3, g4, g5337), rfl, ⟨k5, k6, k7, (tW_all hX13_0 (by have q1 := (ltI c5339); have q2 : (0 : Int32).toInt = 0 := (by decide); omega)), k8, ex5341⟩, by rw [ht]; exact hP9, va_K.moved hW.alike hK, hD9⟩, hS.F ht⟩) hS.2.2 dX11_allWays_128
  · skip
    have k5342 : Rg y5336 0 4095 := rg_e2 (nltI c5339) (rg_lit (n := 0) (by decide)) hy5336 (by decide)
    refine lv_iload_n hx hb dX11_allWays_17 rfl (lv_at hl 0 rfl) ?_
    refine kpurei (wc := []) hP hD hS hA [] rfl (by decide) (fun hPc hDc hFc => va_runS (As := [.int y5336]) (rest := []) ⟨hx, hb, hml, hown, hts⟩ (z_bitCountx l D cI cJ cB cC y5336 H.size) (va_cwS 1 hts gX11_allWays_J6_bitCount_0f7a4 rfl rfl rfl hdJ6_bitCount_0f7a4 ⟨Nat.le_of_ble_eq_true rfl, Nat.le_of_ble_eq_true rfl⟩) ⟨kBlind, fun U hU hW => ⟨rfl, by rw [hU], hN.warm hW, hE.pass hS hFc hW hU, by rw [hU]; exact hPc, va_K.moved hW.alike hK, hDc⟩⟩ rfl rfl hl.1 rfl (lv_room (Nat.le_of_ble_eq_true rfl)) dX11_allWays_18 ⟨Nat.le_of_ble_eq_true rfl, Nat.le_of_ble_eq_true rfl⟩) (fun r5343 u H locs hw hP hS => ?_)
    obtain ⟨k5344, k5345⟩ := hw
    have k5346 : Rg r5343 0 12 := (kBC_rg k5344 k5342).2
    refine lv_istore_n (lv' := [(2, .int r5343), (1, .int y5336), (0, .ref h)]) hx hb dX11_allWays_21 rfl hl (by decide) rfl (fun ls hl => ?_)
    refine lv_iload_n hx hb dX11_allWays_22 rfl (lv_at hl 0 rfl) ?_
    refine lv_aload_n hx hb dX11_allWays_23 rfl (lv_at hl 2 rfl) ?_
    refine va_get (D := D) (ci := 10) (v := .int x1) (C := RX11) (T := TX11) (N := 26) hx hb hts iG_X11 hown hK hP 1 rfl rfl 19 (by decide) (hts _ w40_7) (fun _ h9 => h9) rfl dX11_allWays_24 ?_
    refine lv_icmp_le (tgt := 33) hx hb dX11_allWays_27 (by decide) (fun c6659 => ?_) (fun c6659 => ?_)
    · skip
      have k6660 : Rg r5343 0 10 := rg_e1 (leI c6659) k5346 k5 (by decide)
      refine lv_aload_n hx hb dX11_allWays_33 rfl (lv_at hl 2 rfl) ?_
      refine va_get (D := D) (ci := 10) (v := .ref aW) (C := RX11) (T := TX11) (N := 26) hx hb hts iG_X11 hown hK hP 1 rfl rfl 20 (by decide) (hts _ w5_14) (fun _ h9 => h9) rfl dX11_allWays_34 ?_
      refine lv_iload_n hx hb dX11_allWays_37 rfl (lv_at hl 1 rfl) ?_
      refine lv_iload_n hx hb dX11_allWays_38 rfl (lv_at hl 0 rfl) ?_
      refine lv_aload_n hx hb dX11_allWays_39 rfl (lv_at hl 2 rfl) ?_
      refine va_get (D := D) (ci := 10) (v := .int x1) (C := RX11) (T := TX11) (N := 26) hx hb hts iG_X11 hown hK hP 1 rfl rfl 19 (by decide) (hts _ w40_7) (fun _ h9 => h9) rfl dX11_allWays_40 ?_
      refine lv_icmp_ne (tgt := 50) hx hb dX11_allWays_43 (by decide) (fun c6662 => ?_) (fun c6662 => ?_)
      · skip
        refine lv_lconst (v := 0) hx hb dX11_allWays_50 (by decide) ?_
        refine va_last hx hb hK hP hD hS 0 1 rfl rfl (rg_in k5342 (by decide)) dX11_allWays_51 (fun H locs hP hD hS => ?_)
        have hP : va_P D vwCl [(aW, .inl (cJ, 4096, .inr (.inl (vp_updL g5337 y5336.toNatClampNeg 0)))), (h, oX11 th aw ai ab ac hi re aP ta po en be de fa a5 sp av an ak x1 aW aC ag aT aN aF), (aw, .inl (cI, 2179, .inl fw)), (av, .inl (cI, 400, .inl g2)), (an, .inl (cI, 10, .inl g3)), (ak, .inl (cI, 10, .inl g4))] H := hP
        have hD : va_D A [(aW, .inl (cJ, 4096, .inr (.inl (vp_updL g5337 y5336.toNatClampNeg 0)))), (h, oX11 th aw ai ab ac hi re aP ta po en be de fa a5 sp av an ak x1 aW aC ag aT aN aF), (aw, .inl (cI, 2179, .inl fw)), (av, .inl (cI, 400, .inl g2)), (an, .inl (cI, 10, .inl g3)), (ak, .inl (cI, 10, .inl g4))] := hD
        generalize hg6663 : (vp_updL g5337 y5336.toNatClampNeg 0) = g6663 at hP hD
        refine lv_iconst (v := 0) hx hb dX11_allWays_52 (by decide) ?_
        refine lv_istore_n (lv' := [(3, .int 0), (2, .int r5343), (1, .int y5336), (0, .ref h)]) hx hb dX11_allWays_53 rfl hl (by decide) rfl (fun ls hl => ?_)
        refine k_loop (hd := 54) (fun (u : Int32 × (Nat → Int64)) => match u with | (y7278, g7279) => (12 - (y7278).toInt).toNat) (fun (u : Int32 × (Nat → Int64)) (H : Heap) (locs : List Loc) (ls : Array Slot) => match u with | (y7278, g7279) => (inW g7279 g4 (cN x1) (cN (fw 1)) (cN y5336) (cN r5343) (cN y7278)) ∧ ((y7278 : Int32).toInt ≤ (fw 1).toInt) ∧ Rg y7278 0 12 ∧ va_P D vwCl [(aW, .inl (cJ, 4096, .inr (.inl g7279))), (h, oX11 th aw ai ab ac hi re aP ta po en be de fa a5 sp av an ak x1 aW aC ag aT aN aF), (aw, .inl (cI, 2179, .inl fw)), (av, .inl (cI, 400, .inl g2)), (an, .inl (cI, 10, .inl g3)), (ak, .inl (cI, 10, .inl g4))] H ∧ va_D A [(aW, .inl (cJ, 4096, .inr (.inl g7279))), (h, oX11 th aw ai ab ac hi re aP ta po en be de fa a5 sp av an ak x1 aW aC ag aT aN aF), (aw, .inl (cI, 2179, .inl fw)), (av, .inl (cI, 400, .inl g2)), (an, .inl (cI, 10, .inl g3)), (ak, .inl (cI, 10, .inl g4))] ∧ va_S A s.heap H locs ∧ lv_has ls 4 [(3, .int y7278), (2, .int r5343), (1, .int y5336), (0, .ref h)]) ((0 : Int32), g6663) ⟨(by have q0 : cN (0 : Int32) = 0 := (by decide); rw [q0]; exact inW_new (tW_in hX13_0 (by have q1 := k5342; unfold Rg at q1; omega)) (by rw [← (cl_of (k := cN y5336) k5342 (by decide) (by simp only [cN]; have q1 := k5342; unfold Rg at q1; omega))]; exact hg6663) (kc_pop k5344 k5342) (cn_le (leI c6659)) (cn_lt hX13_1 (by have q1 := k5342; unfold Rg at q1; omega)) (Or.inr ⟨cn_lt2 (by have q1 := (leI c6659); have q2 := neI c6662; omega) (by have q1 := k6660; unfold Rg at q1; omega), rfl⟩)), (by rw [← k10]; have q1 := k11; unfold Rg at q1; have q2 : (0 : Int32).toInt = 0 := (by decide); omega), (rg_w (rg_lit (n := 0) (by decide)) (by decide)), hP.sub (ws' := [(aW, .inl (cJ, 4096, .inr (.inl g6663))), (h, oX11 th aw ai ab ac hi re aP ta po en be de fa a5 sp av an ak x1 aW aC ag aT aN aF), (aw, .inl (cI, 2179, .inl fw)), (av, .inl (cI, 400, .inl g2)), (an, .inl (cI, 10, .inl g3)), (ak, .inl (cI, 10, .inl g4))]) [0, 1, 2, 3, 4, 5] rfl, hD.sub (ws' := [(aW, .inl (cJ, 4096, .inr (.inl g6663))), (h, oX11 th aw ai ab ac hi re aP ta po en be de fa a5 sp av an ak x1 aW aC ag aT aN aF), (aw, .inl (cI, 2179, .inl fw)), (av, .inl (cI, 400, .inl g2)), (an, .inl (cI, 10, .inl g3)), (ak, .inl (cI, 10, .inl g4))]) [0, 1, 2, 3, 4, 5] (by decide) rfl, hS, lv_sub (l' := [(3, .int 0), (2, .int r5343), (1, .int y5336), (0, .ref h)]) hl [0, 1, 2, 3] rfl⟩ (fun u H locs ls hI ih7280 => ?_)
        clear hP hD hS hl
        obtain ⟨y7278, g7279⟩ := u
        obtain ⟨hX54_0, hX54_1, hy7278, hP, hD, hS, hl⟩ := hI
        have hP : va_P D vwCl [(aW, .inl (cJ, 4096, .inr (.inl g7279))), (h, oX11 th aw ai ab ac hi re aP ta po en be de fa a5 sp av an ak x1 aW aC ag aT aN aF), (aw, .inl (cI, 2179, .inl fw)), (av, .inl (cI, 400, .inl g2)), (an, .inl (cI, 10, .inl g3)), (ak, .inl (cI, 10, .inl g4))] H := hP
        have hD : va_D A [(aW, .inl (cJ, 4096, .inr (.inl g7279))), (h, oX11 th aw ai ab ac hi re aP ta po en be de fa a5 sp av an ak x1 aW aC ag aT aN aF), (aw, .inl (cI, 2179, .inl fw)), (av, .inl (cI, 400, .inl g2)), (an, .inl (cI, 10, .inl g3)), (ak, .inl (cI, 10, .inl g4))] := hD
        have hl : lv_has ls 4 [(3, .int y7278), (2, .int r5343), (1, .int y5336), (0, .ref h)] := hl
        refine lv_iload_n hx hb dX11_allWays_54 rfl (lv_at hl 0 rfl) ?_
        refine lv_aload_n hx hb dX11_allWays_55 rfl (lv_at hl 3 rfl) ?_
        refine kpurei (wc := [(h, oX11 th aw ai ab ac hi re aP ta po en be de fa a5 sp av an ak x1 aW aC ag aT aN aF), (aw, .inl (cI, 2179, .inl fw))]) hP hD hS hA [1, 2] rfl (by decide) (fun hPc hDc hFc => va_runV (As := []) (rest := [.int y7278]) ⟨hx, hb, hml, hown, hts⟩ (r_shirts l D cI cJ cB cC h th aw ai ab ac hi re aP ta po en be de fa a5 sp av an ak x1 aW aC ag aT aN aF fw H.size H_fw_W) (cwV 0 hts gX11_allWays_X11_shirts rfl rfl rfl ⟨rfl, hdX11_shirts⟩ ⟨Nat.le_of_ble_eq_true rfl, Nat.le_of_ble_eq_true rfl⟩) ⟨kBlind, va_recv hK hPc (ci := 10) (q0 := 0) rfl rfl, fun U hU hW => ⟨rfl, by rw [hU], hN.warm hW, hE.pass hS hFc hW hU, by rw [hU]; exact hPc, va_K.moved hW.alike hK, hDc⟩⟩ rfl rfl hl.1 rfl (lv_room (Nat.le_of_ble_eq_true rfl)) dX11_allWays_56 ⟨Nat.le_of_ble_eq_true rfl, Nat.le_of_ble_eq_true rfl⟩) (fun r7281 u H locs hw hP hS => ?_)
        obtain ⟨k7282, k7283⟩ := hw
        obtain rfl : r9 = r7281 := k10.trans k7282.symm
        refine lv_icmp_ge (tgt := 116) hx hb dX11_allWays_59 (by decide) (fun c7284 => ?_) (fun c7284 => ?_)
        · skip
          obtain ⟨x7285, ex7285⟩ : ∃ y : Int32, y = y5336 + (-1) := ⟨_, rfl⟩
          refine lv_iinc (v := x7285) (lv' := [(1, .int x7285), (3, .int y7278), (2, .int r5343), (0, .ref h)]) hx hb dX11_allWays_116 hl (k := 2) rfl (by rw [ex7285]; rfl) (by decide) rfl (fun ls hl => ?_)
          have k7286 : Rg x7285 (-1) 4094 := rg_add ex7285 k5342 (rg_lit (n := -1) (by decide)) (by decide)
          refine lv_goto (tgt := 13) hx hb dX11_allWays_119 (by decide) ?_
          exact ih5338 (x7285, g7279) _ _ _ (by show ((x7285).toInt - (-1)).toNat < ((y5336).toInt - (-1)).toNat; exact mu_dn ex7285 k5342 k7286 (by decide)) ⟨(tW_out (tW_done hX54_0 (cn_to k5 (by decide)) (by rw [← k10]; exact cn_to k11 (by decide)) (cn_le hX54_1) (fun _ => Nat.le_antisymm (cn_le hX54_1) (cn_le (by have q1 := (leI c7284); rw [k10] at q1; exact q1)))) (ti_add (Y := -1) ex7285 k5342 (rg_lit (n := -1) (by decide)) (by decide) rfl (by decide))), (by have q1 := hX13_1; have q2 := (ti_add (Y := -1) ex7285 k5342 (rg_lit (n := -1) (by decide)) (by decide) rfl (by decide)); omega), (by have q1 := k5342; have q2 := (ti_add (Y := -1) ex7285 k5342 (rg_lit (n := -1) (by decide)) (by decide) rfl (by decide)); unfold Rg at q1; omega), (rg_w k7286 (by decide)), hP.sub (ws' := [(aW, .inl (cJ, 4096, .inr (.inl g7279))), (h, oX11 th aw ai ab ac hi re aP ta po en be de fa a5 sp av an ak x1 aW aC ag aT aN aF), (aw, .inl (cI, 2179, .inl fw)), (av, .inl (cI, 400, .inl g2)), (an, .inl (cI, 10, .inl g3)), (ak, .inl (cI, 10, .inl g4))]) [0, 1, 2, 3, 4, 5] rfl, hD.sub (ws' := [(aW, .inl (cJ, 4096, .inr (.inl g7279))), (h, oX11 th aw ai ab ac hi re aP ta po en be de fa a5 sp av an ak x1 aW aC ag aT aN aF), (aw, .inl (cI, 2179, .inl fw)), (av, .inl (cI, 400, .inl g2)), (an, .inl (cI, 10, .inl g3)), (ak, .inl (cI, 10, .inl g4))]) [0, 1, 2, 3, 4, 5] (by decide) rfl, hS, lv_sub (l' := [(1, .int x7285), (0, .ref h)]) hl [0, 3] rfl⟩
        · skip
          have k7287 : Rg y7278 0 11 := rg_l1 (nleI c7284) hy7278 k11 (by decide)
          have k7288 : Rg r9 1 12 := rg_l2 (nleI c7284) hy7278 k11 (by decide)
          refine lv_iload_n hx hb dX11_allWays_62 rfl (lv_at hl 1 rfl) ?_
          refine lv_aload_n hx hb dX11_allWays_63 rfl (lv_at hl 3 rfl) ?_
          refine va_get (D := D) (ci := 10) (v := .int x1) (C := RX11) (T := TX11) (N := 26) hx hb hts iG_X11 hown hK hP 1 rfl rfl 19 (by decide) (hts _ w40_7) (fun _ h9 => h9) rfl dX11_allWays_64 ?_
          refine lv_icmp_ge (tgt := 116) hx hb dX11_allWays_67 (by decide) (fun c7289 => ?_) (fun c7289 => ?_)
          · skip
            obtain ⟨x7290, ex7290⟩ : ∃ y : Int32, y = y5336 + (-1) := ⟨_, rfl⟩
            refine lv_iinc (v := x7290) (lv' := [(1, .int x7290), (3, .int y7278), (2, .int r5343), (0, .ref h)]) hx hb dX11_allWays_116 hl (k := 2) rfl (by rw [ex7290]; rfl) (by decide) rfl (fun ls hl => ?_)
            have k7291 : Rg x7290 (-1) 4094 := rg_add ex7290 k5342 (rg_lit (n := -1) (by decide)) (by decide)
            refine lv_goto (tgt := 13) hx hb dX11_allWays_119 (by decide) ?_
            exact ih5338 (x7290, g7279) _ _ _ (by show ((x7290).toInt - (-1)).toNat < ((y5336).toInt - (-1)).toNat; exact mu_dn ex7290 k5342 k7291 (by decide)) ⟨(tW_out (tW_done hX54_0 (cn_to k5 (by decide)) (by rw [← k10]; exact cn_to k7288 (by decide)) (cn_le hX54_1) (fun q => absurd q (Nat.not_lt.mpr (cn_le (leI c7289))))) (ti_add (Y := -1) ex7290 k5342 (rg_lit (n := -1) (by decide)) (by decide) rfl (by decide))), (by have q1 := hX13_1; have q2 := (ti_add (Y := -1) ex7290 k5342 (rg_lit (n := -1) (by decide)) (by decide) rfl (by decide)); omega), (by have q1 := k5342; have q2 := (ti_add (Y := -1) ex7290 k5342 (rg_lit (n := -1) (by decide)) (by decide) rfl (by decide)); unfold Rg at q1; omega), (rg_w k7291 (by decide)), hP.sub (ws' := [(aW, .inl (cJ, 4096, .inr (.inl g7279))), (h, oX11 th aw ai ab ac hi re aP ta po en be de fa a5 sp av an ak x1 aW aC ag aT aN aF), (aw, .inl (cI, 2179, .inl fw)), (av, .inl (cI, 400, .inl g2)), (an, .inl (cI, 10, .inl g3)), (ak, .inl (cI, 10, .inl g4))]) [0, 1, 2, 3, 4, 5] rfl, hD.sub (ws' := [(aW, .inl (cJ, 4096, .inr (.inl g7279))), (h, oX11 th aw ai ab ac hi re aP ta po en be de fa a5 sp av an ak x1 aW aC ag aT aN aF), (aw, .inl (cI, 2179, .inl fw)), (av, .inl (cI, 400, .inl g2)), (an, .inl (cI, 10, .inl g3)), (ak, .inl (cI, 10, .inl g4))]) [0, 1, 2, 3, 4, 5] (by decide) rfl, hS, lv_sub (l' := [(1, .int x7290), (0, .ref h)]) hl [0, 3] rfl⟩
          · skip
            have k7292 : Rg r5343 0 9 := rg_l1 (nleI c7289) k6660 k5 (by decide)
            have k7293 : Rg x1 1 10 := rg_l2 (nleI c7289) k6660 k5 (by decide)
            refine lv_aload_n hx hb dX11_allWays_70 rfl (lv_at hl 3 rfl) ?_
            refine va_get (D := D) (ci := 10) (v := .ref ak) (C := RX11) (T := TX11) (N := 26) hx hb hts iG_X11 hown hK hP 1 rfl rfl 18 (by decide) (hts _ w5_13) (fun _ h9 => h9) rfl dX11_allWays_71 ?_
            refine lv_iload_n hx hb dX11_allWays_74 rfl (lv_at hl 1 rfl) ?_
            refine va_iald hx hb hK hP 5 0 rfl rfl (rg_in k7292 (by decide)) dX11_allWays_75 ?_
            refine lv_topi (fun x7294 ex7294 => ?_)
            have k7295 : Rg x7294 0 4095 := wK_rd k7 ex7294
            refine lv_iload_n hx hb dX11_allWays_76 rfl (lv_at hl 0 rfl) ?_
            refine kpurei (wc := []) hP hD hS hA [] rfl (by decide) (fun hPc hDc hFc => va_runS (As := [.int x7294, .int y7278]) (rest := []) ⟨hx, hb, hml, hown, hts⟩ (r_hasx l D cI cJ cB cC x7294 y7278 H.size) (va_cwS 2 hts gX11_allWays_X11_has rfl rfl rfl hdX11_has ⟨Nat.le_of_ble_eq_true rfl, Nat.le_of_ble_eq_true rfl⟩) ⟨kBlind, fun U hU hW => ⟨rfl, by rw [hU], hN.warm hW, hE.pass hS hFc hW hU, by rw [hU]; exact hPc, va_K.moved hW.alike hK, hDc⟩⟩ rfl rfl hl.1 rfl (lv_room (Nat.le_of_ble_eq_true rfl)) dX11_allWays_77 ⟨Nat.le_of_ble_eq_true rfl, Nat.le_of_ble_eq_true rfl⟩) (fun r7296 u H locs hw hP hS => ?_)
            obtain ⟨k7297, k7298⟩ := hw
            refine lv_if_eq (tgt := 110) hx hb dX11_allWays_80 (by decide) (fun c7316 => ?_) (fun c7316 => ?_)
            · skip
              have k7317 : Rg r7296 0 0 := rg_q1 (eqI c7316) k7298 (rg_lit (n := 0) (by decide)) (by decide)
              obtain ⟨x7318, ex7318⟩ : ∃ y : Int32, y = y7278 + 1 := ⟨_, rfl⟩
              refine lv_iinc (v := x7318) (lv' := [(3, .int x7318), (2, .int r5343), (1, .int y5336), (0, .ref h)]) hx hb dX11_allWays_110 hl (k := 0) rfl (by rw [ex7318]; rfl) (by decide) rfl (fun ls hl => ?_)
              have k7319 : Rg x7318 1 12 := rg_add ex7318 k7287 (rg_lit (n := 1) (by decide)) (by decide)
              refine lv_goto (tgt := 54) hx hb dX11_allWays_113 (by decide) ?_
              exact ih7280 (x7318, g7279) _ _ _ (by show (12 - (x7318).toInt).toNat < (12 - (y7278).toInt).toNat; exact mu_up ex7318 k7287 k7319 (by decide)) ⟨(by rw [(s1_cN (by have q1 := k7287; unfold Rg at q1; omega) (ti_add (Y := 1) ex7318 k7287 (rg_lit (n := 1) (by decide)) (by decide) rfl (by decide)))]; exact inW_skip hX54_0), (by have q1 := (by have q1 := (nleI c7284); rw [k10] at q1; exact q1); have q2 := (ti_add (Y := 1) ex7318 k7287 (rg_lit (n := 1) (by decide)) (by decide) rfl (by decide)); omega), (rg_w k7319 (by decide)), hP.sub (ws' := [(aW, .inl (cJ, 4096, .inr (.inl g7279))), (h, oX11 th aw ai ab ac hi re aP ta po en be de fa a5 sp av an ak x1 aW aC ag aT aN aF), (aw, .inl (cI, 2179, .inl fw)), (av, .inl (cI, 400, .inl g2)), (an, .inl (cI, 10, .inl g3)), (ak, .inl (cI, 10, .inl g4))]) [0, 1, 2, 3, 4, 5] rfl, hD.sub (ws' := [(aW, .inl (cJ, 4096, .inr (.inl g7279))), (h, oX11 th aw ai ab ac hi re aP ta po en be de fa a5 sp av an ak x1 aW aC ag aT aN aF), (aw, .inl (cI, 2179, .inl fw)), (av, .inl (cI, 400, .inl g2)), (an, .inl (cI, 10, .inl g3)), (ak, .inl (cI, 10, .inl g4))]) [0, 1, 2, 3, 4, 5] (by decide) rfl, hS, lv_sub (l' := [(3, .int x7318), (2, .int r5343), (1, .int y5336), (0, .ref h)]) hl [0, 1, 2, 3] rfl⟩
            · skip
              have k7320 : Rg r7296 1 1 := rg_n1 (neI c7316) k7298 (rg_lit (n := 0) (by decide)) (by decide)
              refine lv_iload_n hx hb dX11_allWays_83 rfl (lv_at hl 2 rfl) ?_
              refine lv_iload_n hx hb dX11_allWays_84 rfl (lv_at hl 0 rfl) ?_
              refine kpurei (wc := []) hP hD hS hA [] rfl (by decide) (fun hPc hDc hFc => va_runS (As := [.int y5336, .int y7278]) (rest := []) ⟨hx, hb, hml, hown, hts⟩ (r_hasx l D cI cJ cB cC y5336 y7278 H.size) (va_cwS 2 hts gX11_allWays_X11_has rfl rfl rfl hdX11_has ⟨Nat.le_of_ble_eq_true rfl, Nat.le_of_ble_eq_true rfl⟩) ⟨kBlind, fun U hU hW => ⟨rfl, by rw [hU], hN.warm hW, hE.pass hS hFc hW hU, by rw [hU]; exact hPc, va_K.moved hW.alike hK, hDc⟩⟩ rfl rfl hl.1 rfl (lv_room (Nat.le_of_ble_eq_true rfl)) dX11_allWays_85 ⟨Nat.le_of_ble_eq_true rfl, Nat.le_of_ble_eq_true rfl⟩) (fun r7321 u H locs hw hP hS => ?_)
              obtain ⟨k7322, k7323⟩ := hw
              refine lv_if_ne (tgt := 110) hx hb dX11_allWays_88 (by decide) (fun c7324 => ?_) (fun c7324 => ?_)
              · skip
                have k7325 : Rg r7321 1 1 := rg_n1 (neI c7324) k7323 (rg_lit (n := 0) (by decide)) (by decide)
                obtain ⟨x7326, ex7326⟩ : ∃ y : Int32, y = y7278 + 1 := ⟨_, rfl⟩
                refine lv_iinc (v := x7326) (lv' := [(3, .int x7326), (2, .int r5343), (1, .int y5336), (0, .ref h)]) hx hb dX11_allWays_110 hl (k := 0) rfl (by rw [ex7326]; rfl) (by decide) rfl (fun ls hl => ?_)
                have k7327 : Rg x7326 1 12 := rg_add ex7326 k7287 (rg_lit (n := 1) (by decide)) (by decide)
                refine lv_goto (tgt := 54) hx hb dX11_allWays_113 (by decide) ?_
                exact ih7280 (x7326, g7279) _ _ _ (by show (12 - (x7326).toInt).toNat < (12 - (y7278).toInt).toNat; exact mu_up ex7326 k7287 k7327 (by decide)) ⟨(by rw [(s1_cN (by have q1 := k7287; unfold Rg at q1; omega) (ti_add (Y := 1) ex7326 k7287 (rg_lit (n := 1) (by decide)) (by decide) rfl (by decide)))]; exact inW_skip hX54_0), (by have q1 := (by have q1 := (nleI c7284); rw [k10] at q1; exact q1); have q2 := (ti_add (Y := 1) ex7326 k7287 (rg_lit (n := 1) (by decide)) (by decide) rfl (by decide)); omega), (rg_w k7327 (by decide)), hP.sub (ws' := [(aW, .inl (cJ, 4096, .inr (.inl g7279))), (h, oX11 th aw ai ab ac hi re aP ta po en be de fa a5 sp av an ak x1 aW aC ag aT aN aF), (aw, .inl (cI, 2179, .inl fw)), (av, .inl (cI, 400, .inl g2)), (an, .inl (cI, 10, .inl g3)), (ak, .inl (cI, 10, .inl g4))]) [0, 1, 2, 3, 4, 5] rfl, hD.sub (ws' := [(aW, .inl (cJ, 4096, .inr (.inl g7279))), (h, oX11 th aw ai ab ac hi re aP ta po en be de fa a5 sp av an ak x1 aW aC ag aT aN aF), (aw, .inl (cI, 2179, .inl fw)), (av, .inl (cI, 400, .inl g2)), (an, .inl (cI, 10, .inl g3)), (ak, .inl (cI, 10, .inl g4))]) [0, 1, 2, 3, 4, 5] (by decide) rfl, hS, lv_sub (l' := [(3, .int x7326), (2, .int r5343), (1, .int y5336), (0, .ref h)]) hl [0, 1, 2, 3] rfl⟩
              · skip
                have k7328 : Rg r7321 0 0 := rg_q1 (eqI c7324) k7323 (rg_lit (n := 0) (by decide)) (by decide)
                refine lv_aload_n hx hb dX11_allWays_91 rfl (lv_at hl 3 rfl) ?_
                refine va_get (D := D) (ci := 10) (v := .ref aW) (C := RX11) (T := TX11) (N := 26) hx hb hts iG_X11 hown hK hP 1 rfl rfl 20 (by decide) (hts _ w5_14) (fun _ h9 => h9) rfl dX11_allWays_92 ?_
                refine lv_iload_n hx hb dX11_allWays_95 rfl (lv_at hl 2 rfl) ?_
                refine lv_dup2_11 hx hb dX11_allWays_96 rfl rfl ?_
                refine va_lald hx hb hK hP 0 1 rfl rfl (rg_in k5342 (by decide)) dX11_allWays_97 ?_
                refine lv_topl (fun x7329 ex7329 => ?_)
                refine lv_aload_n hx hb dX11_allWays_98 rfl (lv_at hl 3 rfl) ?_
                refine va_get (D := D) (ci := 10) (v := .ref aW) (C := RX11) (T := TX11) (N := 26) hx hb hts iG_X11 hown hK hP 1 rfl rfl 20 (by decide) (hts _ w5_14) (fun _ h9 => h9) rfl dX11_allWays_99 ?_
                refine lv_iload_n hx hb dX11_allWays_102 rfl (lv_at hl 2 rfl) ?_
                refine lv_iconst (v := 1) hx hb dX11_allWays_103 (by decide) ?_
                refine lv_iload_n hx hb dX11_allWays_104 rfl (lv_at hl 0 rfl) ?_
                refine lv_ishl hx hb dX11_allWays_105 ?_
                refine lv_topi (fun x7330 ex7330 => ?_)
                have k7331 : Rg x7330 1 2048 := rg_shl1 11 ex7330 k7287 (by decide)
                refine lv_ior hx hb dX11_allWays_106 ?_
                refine lv_topi (fun x7332 ex7332 => ?_)
                have k7333 : Rg x7332 0 4095 := rg_or 12 ex7332 k5342 k7331 (by decide)
                refine va_lald hx hb hK hP 0 1 rfl rfl (rg_in k7333 (by decide)) dX11_allWays_107 ?_
                refine lv_topl (fun x7334 ex7334 => ?_)
                refine lv_ladd hx hb dX11_allWays_108 ?_
                refine lv_topl (fun x7335 ex7335 => ?_)
                refine va_last hx hb hK hP hD hS 0 1 rfl rfl (rg_in k5342 (by decide)) dX11_allWays_109 (fun H locs hP hD hS => ?_)
                have hP : va_P D vwCl [(aW, .inl (cJ, 4096, .inr (.inl (vp_updL g7279 y5336.toNatClampNeg x7335)))), (h, oX11 th aw ai ab ac hi re aP ta po en be de fa a5 sp av an ak x1 aW aC ag aT aN aF), (aw, .inl (cI, 2179, .inl fw)), (av, .inl (cI, 400, .inl g2)), (an, .inl (cI, 10, .inl g3)), (ak, .inl (cI, 10, .inl g4))] H := hP
                have hD : va_D A [(aW, .inl (cJ, 4096, .inr (.inl (vp_updL g7279 y5336.toNatClampNeg x7335)))), (h, oX11 th aw ai ab ac hi re aP ta po en be de fa a5 sp av an ak x1 aW aC ag aT aN aF), (aw, .inl (cI, 2179, .inl fw)), (av, .inl (cI, 400, .inl g2)), (an, .inl (cI, 10, .inl g3)), (ak, .inl (cI, 10, .inl g4))] := hD
                generalize hg7336 : (vp_updL g7279 y5336.toNatClampNeg x7335) = g7336 at hP hD
                obtain ⟨x7337, ex7337⟩ : ∃ y : Int32, y = y7278 + 1 := ⟨_, rfl⟩
                refine lv_iinc (v := x7337) (lv' := [(3, .int x7337), (2, .int r5343), (1, .int y5336), (0, .ref h)]) hx hb dX11_allWays_110 hl (k := 0) rfl (by rw [ex7337]; rfl) (by decide) rfl (fun ls hl => ?_)
                have k7338 : Rg x7337 1 12 := rg_add ex7337 k7287 (rg_lit (n := 1) (by decide)) (by decide)
                refine lv_goto (tgt := 54) hx hb dX11_allWays_113 (by decide) ?_
                exact ih7280 (x7337, g7336) _ _ _ (by show (12 - (x7337).toInt).toNat < (12 - (y7278).toInt).toNat; exact mu_up ex7337 k7287 k7338 (by decide)) ⟨(by rw [(s1_cN (by have q1 := k7287; unfold Rg at q1; omega) (ti_add (Y := 1) ex7337 k7287 (rg_lit (n := 1) (by decide)) (by decide) rfl (by decide)))]; exact inW_add (v := x7335) hX54_0 (cn_lt2 (nleI c7289) (by have q1 := k7292; unfold Rg at q1; omega)) (cn_to k7293 (by decide)) (cn_lt2 (by have q1 := (nleI c7284); rw [k10] at q1; exact q1) (by have q1 := k7287; unfold Rg at q1; omega)) (by rw [← k10]; exact cn_to k7288 (by decide)) (elig_of ex7294 (cl_of (k := cN r5343) k7292 (by decide) (by simp only [cN]; have q1 := k7292; unfold Rg at q1; omega)) k7297 k7295 (rg_w k7287 (by decide)) c7316 k7322 k5342 (Int32.toInt_inj.mp (eqI c7324))) (by rw [ex7335, ex7329, ex7334, (cl_of (k := cN y5336) k5342 (by decide) (by simp only [cN]; have q1 := k5342; unfold Rg at q1; omega)), (cl_of (k := cN x7332) k7333 (by decide) (by simp only [cN]; have q1 := k7333; unfold Rg at q1; omega)), (or_bit ex7330 ex7332 k5342 (rg_w k7287 (by decide))).1]) (by rw [← (cl_of (k := cN y5336) k5342 (by decide) (by simp only [cN]; have q1 := k5342; unfold Rg at q1; omega))]; exact hg7336)), (by have q1 := (by have q1 := (nleI c7284); rw [k10] at q1; exact q1); have q2 := (ti_add (Y := 1) ex7337 k7287 (rg_lit (n := 1) (by decide)) (by decide) rfl (by decide)); omega), (rg_w k7338 (by decide)), hP.sub (ws' := [(aW, .inl (cJ, 4096, .inr (.inl g7336))), (h, oX11 th aw ai ab ac hi re aP ta po en be de fa a5 sp av an ak x1 aW aC ag aT aN aF), (aw, .inl (cI, 2179, .inl fw)), (av, .inl (cI, 400, .inl g2)), (an, .inl (cI, 10, .inl g3)), (ak, .inl (cI, 10, .inl g4))]) [0, 1, 2, 3, 4, 5] rfl, hD.sub (ws' := [(aW, .inl (cJ, 4096, .inr (.inl g7336))), (h, oX11 th aw ai ab ac hi re aP ta po en be de fa a5 sp av an ak x1 aW aC ag aT aN aF), (aw, .inl (cI, 2179, .inl fw)), (av, .inl (cI, 400, .inl g2)), (an, .inl (cI, 10, .inl g3)), (ak, .inl (cI, 10, .inl g4))]) [0, 1, 2, 3, 4, 5] (by decide) rfl, hS, lv_sub (l' := [(3, .int x7337), (2, .int r5343), (1, .int y5336), (0, .ref h)]) hl [0, 1, 2, 3] rfl⟩
      · skip
        refine lv_lconst (v := 1) hx hb dX11_allWays_46 (by decide) ?_
        refine lv_goto (tgt := 51) hx hb dX11_allWays_47 (by decide) ?_
        refine va_last hx hb hK hP hD hS 0 1 rfl rfl (rg_in k5342 (by decide)) dX11_allWays_51 (fun H locs hP hD hS => ?_)
        have hP : va_P D vwCl [(aW, .inl (cJ, 4096, .inr (.inl (vp_updL g5337 y5336.toNatClampNeg 1)))), (h, oX11 th aw ai ab ac hi re aP ta po en be de fa a5 sp av an ak x1 aW aC ag aT aN aF), (aw, .inl (cI, 2179, .inl fw)), (av, .inl (cI, 400, .inl g2)), (an, .inl (cI, 10, .inl g3)), (ak, .inl (cI, 10, .inl g4))] H := hP
        have hD : va_D A [(aW, .inl (cJ, 4096, .inr (.inl (vp_updL g5337 y5336.toNatClampNeg 1)))), (h, oX11 th aw ai ab ac hi re aP ta po en be de fa a5 sp av an ak x1 aW aC ag aT aN aF), (aw, .inl (cI, 2179, .inl fw)), (av, .inl (cI, 400, .inl g2)), (an, .inl (cI, 10, .inl g3)), (ak, .inl (cI, 10, .inl g4))] := hD
        generalize hg7339 : (vp_updL g5337 y5336.toNatClampNeg 1) = g7339 at hP hD
        refine lv_iconst (v := 0) hx hb dX11_allWays_52 (by decide) ?_
        refine lv_istore_n (lv' := [(3, .int 0), (2, .int r5343), (1, .int y5336), (0, .ref h)]) hx hb dX11_allWays_53 rfl hl (by decide) rfl (fun ls hl => ?_)
        refine k_loop (hd := 54) (fun (u : Int32 × (Nat → Int64)) => match u with | (y7954, g7955) => (12 - (y7954).toInt).toNat) (fun (u : Int32 × (Nat → Int64)) (H : Heap) (locs : List Loc) (ls : Array Slot) => match u with | (y7954, g7955) => (inW g7955 g4 (cN x1) (cN (fw 1)) (cN y5336) (cN r5343) (cN y7954)) ∧ ((y7954 : Int32).toInt ≤ (fw 1).toInt) ∧ Rg y7954 0 12 ∧ va_P D vwCl [(aW, .inl (cJ, 4096, .inr (.inl g7955))), (h, oX11 th aw ai ab ac hi re aP ta po en be de fa a5 sp av an ak x1 aW aC ag aT aN aF), (aw, .inl (cI, 2179, .inl fw)), (av, .inl (cI, 400, .inl g2)), (an, .inl (cI, 10, .inl g3)), (ak, .inl (cI, 10, .inl g4))] H ∧ va_D A [(aW, .inl (cJ, 4096, .inr (.inl g7955))), (h, oX11 th aw ai ab ac hi re aP ta po en be de fa a5 sp av an ak x1 aW aC ag aT aN aF), (aw, .inl (cI, 2179, .inl fw)), (av, .inl (cI, 400, .inl g2)), (an, .inl (cI, 10, .inl g3)), (ak, .inl (cI, 10, .inl g4))] ∧ va_S A s.heap H locs ∧ lv_has ls 4 [(3, .int y7954), (2, .int r5343), (1, .int y5336), (0, .ref h)]) ((0 : Int32), g7339) ⟨(by have q0 : cN (0 : Int32) = 0 := (by decide); rw [q0]; exact inW_new (tW_in hX13_0 (by have q1 := k5342; unfold Rg at q1; omega)) (by rw [← (cl_of (k := cN y5336) k5342 (by decide) (by simp only [cN]; have q1 := k5342; unfold Rg at q1; omega))]; exact hg7339) (kc_pop k5344 k5342) (cn_le (leI c6659)) (cn_lt hX13_1 (by have q1 := k5342; unfold Rg at q1; omega)) (Or.inl ⟨cn_eq (eqI c6662), rfl⟩)), (by rw [← k10]; have q1 := k11; unfold Rg at q1; have q2 : (0 : Int32).toInt = 0 := (by decide); omega), (rg_w (rg_lit (n := 0) (by decide)) (by decide)), hP.sub (ws' := [(aW, .inl (cJ, 4096, .inr (.inl g7339))), (h, oX11 th aw ai ab ac hi re aP ta po en be de fa a5 sp av an ak x1 aW aC ag aT aN aF), (aw, .inl (cI, 2179, .inl fw)), (av, .inl (cI, 400, .inl g2)), (an, .inl (cI, 10, .inl g3)), (ak, .inl (cI, 10, .inl g4))]) [0, 1, 2, 3, 4, 5] rfl, hD.sub (ws' := [(aW, .inl (cJ, 4096, .inr (.inl g7339))), (h, oX11 th aw ai ab ac hi re aP ta po en be de fa a5 sp av an ak x1 aW aC ag aT aN aF), (aw, .inl (cI, 2179, .inl fw)), (av, .inl (cI, 400, .inl g2)), (an, .inl (cI, 10, .inl g3)), (ak, .inl (cI, 10, .inl g4))]) [0, 1, 2, 3, 4, 5] (by decide) rfl, hS, lv_sub (l' := [(3, .int 0), (2, .int r5343), (1, .int y5336), (0, .ref h)]) hl [0, 1, 2, 3] rfl⟩ (fun u H locs ls hI ih7956 => ?_)
        clear hP hD hS hl
        obtain ⟨y7954, g7955⟩ := u
        obtain ⟨hX54_0, hX54_1, hy7954, hP, hD, hS, hl⟩ := hI
        have hP : va_P D vwCl [(aW, .inl (cJ, 4096, .inr (.inl g7955))), (h, oX11 th aw ai ab ac hi re aP ta po en be de fa a5 sp av an ak x1 aW aC ag aT aN aF), (aw, .inl (cI, 2179, .inl fw)), (av, .inl (cI, 400, .inl g2)), (an, .inl (cI, 10, .inl g3)), (ak, .inl (cI, 10, .inl g4))] H := hP
        have hD : va_D A [(aW, .inl (cJ, 4096, .inr (.inl g7955))), (h, oX11 th aw ai ab ac hi re aP ta po en be de fa a5 sp av an ak x1 aW aC ag aT aN aF), (aw, .inl (cI, 2179, .inl fw)), (av, .inl (cI, 400, .inl g2)), (an, .inl (cI, 10, .inl g3)), (ak, .inl (cI, 10, .inl g4))] := hD
        have hl : lv_has ls 4 [(3, .int y7954), (2, .int r5343), (1, .int y5336), (0, .ref h)] := hl
        refine lv_iload_n hx hb dX11_allWays_54 rfl (lv_at hl 0 rfl) ?_
        refine lv_aload_n hx hb dX11_allWays_55 rfl (lv_at hl 3 rfl) ?_
        refine kpurei (wc := [(h, oX11 th aw ai ab ac hi re aP ta po en be de fa a5 sp av an ak x1 aW aC ag aT aN aF), (aw, .inl (cI, 2179, .inl fw))]) hP hD hS hA [1, 2] rfl (by decide) (fun hPc hDc hFc => va_runV (As := []) (rest := [.int y7954]) ⟨hx, hb, hml, hown, hts⟩ (r_shirts l D cI cJ cB cC h th aw ai ab ac hi re aP ta po en be de fa a5 sp av an ak x1 aW aC ag aT aN aF fw H.size H_fw_W) (cwV 0 hts gX11_allWays_X11_shirts rfl rfl rfl ⟨rfl, hdX11_shirts⟩ ⟨Nat.le_of_ble_eq_true rfl, Nat.le_of_ble_eq_true rfl⟩) ⟨kBlind, va_recv hK hPc (ci := 10) (q0 := 0) rfl rfl, fun U hU hW => ⟨rfl, by rw [hU], hN.warm hW, hE.pass hS hFc hW hU, by rw [hU]; exact hPc, va_K.moved hW.alike hK, hDc⟩⟩ rfl rfl hl.1 rfl (lv_room (Nat.le_of_ble_eq_true rfl)) dX11_allWays_56 ⟨Nat.le_of_ble_eq_true rfl, Nat.le_of_ble_eq_true rfl⟩) (fun r7957 u H locs hw hP hS => ?_)
        obtain ⟨k7958, k7959⟩ := hw
        obtain rfl : r9 = r7957 := k10.trans k7958.symm
        refine lv_icmp_ge (tgt := 116) hx hb dX11_allWays_59 (by decide) (fun c7960 => ?_) (fun c7960 => ?_)
        · skip
          obtain ⟨x7961, ex7961⟩ : ∃ y : Int32, y = y5336 + (-1) := ⟨_, rfl⟩
          refine lv_iinc (v := x7961) (lv' := [(1, .int x7961), (3, .int y7954), (2, .int r5343), (0, .ref h)]) hx hb dX11_allWays_116 hl (k := 2) rfl (by rw [ex7961]; rfl) (by decide) rfl (fun ls hl => ?_)
          have k7962 : Rg x7961 (-1) 4094 := rg_add ex7961 k5342 (rg_lit (n := -1) (by decide)) (by decide)
          refine lv_goto (tgt := 13) hx hb dX11_allWays_119 (by decide) ?_
          exact ih5338 (x7961, g7955) _ _ _ (by show ((x7961).toInt - (-1)).toNat < ((y5336).toInt - (-1)).toNat; exact mu_dn ex7961 k5342 k7962 (by decide)) ⟨(tW_out (tW_done hX54_0 (cn_to k5 (by decide)) (by rw [← k10]; exact cn_to k11 (by decide)) (cn_le hX54_1) (fun _ => Nat.le_antisymm (cn_le hX54_1) (cn_le (by have q1 := (leI c7960); rw [k10] at q1; exact q1)))) (ti_add (Y := -1) ex7961 k5342 (rg_lit (n := -1) (by decide)) (by decide) rfl (by decide))), (by have q1 := hX13_1; have q2 := (ti_add (Y := -1) ex7961 k5342 (rg_lit (n := -1) (by decide)) (by decide) rfl (by decide)); omega), (by have q1 := k5342; have q2 := (ti_add (Y := -1) ex7961 k5342 (rg_lit (n := -1) (by decide)) (by decide) rfl (by decide)); unfold Rg at q1; omega), (rg_w k7962 (by decide)), hP.sub (ws' := [(aW, .inl (cJ, 4096, .inr (.inl g7955))), (h, oX11 th aw ai ab ac hi re aP ta po en be de fa a5 sp av an ak x1 aW aC ag aT aN aF), (aw, .inl (cI, 2179, .inl fw)), (av, .inl (cI, 400, .inl g2)), (an, .inl (cI, 10, .inl g3)), (ak, .inl (cI, 10, .inl g4))]) [0, 1, 2, 3, 4, 5] rfl, hD.sub (ws' := [(aW, .inl (cJ, 4096, .inr (.inl g7955))), (h, oX11 th aw ai ab ac hi re aP ta po en be de fa a5 sp av an ak x1 aW aC ag aT aN aF), (aw, .inl (cI, 2179, .inl fw)), (av, .inl (cI, 400, .inl g2)), (an, .inl (cI, 10, .inl g3)), (ak, .inl (cI, 10, .inl g4))]) [0, 1, 2, 3, 4, 5] (by decide) rfl, hS, lv_sub (l' := [(1, .int x7961), (0, .ref h)]) hl [0, 3] rfl⟩
        · skip
          have k7963 : Rg y7954 0 11 := rg_l1 (nleI c7960) hy7954 k11 (by decide)
          have k7964 : Rg r9 1 12 := rg_l2 (nleI c7960) hy7954 k11 (by decide)
          refine lv_iload_n hx hb dX11_allWays_62 rfl (lv_at hl 1 rfl) ?_
          refine lv_aload_n hx hb dX11_allWays_63 rfl (lv_at hl 3 rfl) ?_
          refine va_get (D := D) (ci := 10) (v := .int x1) (C := RX11) (T := TX11) (N := 26) hx hb hts iG_X11 hown hK hP 1 rfl rfl 19 (by decide) (hts _ w40_7) (fun _ h9 => h9) rfl dX11_allWays_64 ?_
          refine lv_icmp_ge (tgt := 116) hx hb dX11_allWays_67 (by decide) (fun c7965 => ?_) (fun c7965 => ?_)
          · skip
            obtain ⟨x7966, ex7966⟩ : ∃ y : Int32, y = y5336 + (-1) := ⟨_, rfl⟩
            refine lv_iinc (v := x7966) (lv' := [(1, .int x7966), (3, .int y7954), (2, .int r5343), (0, .ref h)]) hx hb dX11_allWays_116 hl (k := 2) rfl (by rw [ex7966]; rfl) (by decide) rfl (fun ls hl => ?_)
            have k7967 : Rg x7966 (-1) 4094 := rg_add ex7966 k5342 (rg_lit (n := -1) (by decide)) (by decide)
            refine lv_goto (tgt := 13) hx hb dX11_allWays_119 (by decide) ?_
            exact ih5338 (x7966, g7955) _ _ _ (by show ((x7966).toInt - (-1)).toNat < ((y5336).toInt - (-1)).toNat; exact mu_dn ex7966 k5342 k7967 (by decide)) ⟨(tW_out (tW_done hX54_0 (cn_to k5 (by decide)) (by rw [← k10]; exact cn_to k7964 (by decide)) (cn_le hX54_1) (fun q => absurd q (Nat.not_lt.mpr (cn_le (leI c7965))))) (ti_add (Y := -1) ex7966 k5342 (rg_lit (n := -1) (by decide)) (by decide) rfl (by decide))), (by have q1 := hX13_1; have q2 := (ti_add (Y := -1) ex7966 k5342 (rg_lit (n := -1) (by decide)) (by decide) rfl (by decide)); omega), (by have q1 := k5342; have q2 := (ti_add (Y := -1) ex7966 k5342 (rg_lit (n := -1) (by decide)) (by decide) rfl (by decide)); unfold Rg at q1; omega), (rg_w k7967 (by decide)), hP.sub (ws' := [(aW, .inl (cJ, 4096, .inr (.inl g7955))), (h, oX11 th aw ai ab ac hi re aP ta po en be de fa a5 sp av an ak x1 aW aC ag aT aN aF), (aw, .inl (cI, 2179, .inl fw)), (av, .inl (cI, 400, .inl g2)), (an, .inl (cI, 10, .inl g3)), (ak, .inl (cI, 10, .inl g4))]) [0, 1, 2, 3, 4, 5] rfl, hD.sub (ws' := [(aW, .inl (cJ, 4096, .inr (.inl g7955))), (h, oX11 th aw ai ab ac hi re aP ta po en be de fa a5 sp av an ak x1 aW aC ag aT aN aF), (aw, .inl (cI, 2179, .inl fw)), (av, .inl (cI, 400, .inl g2)), (an, .inl (cI, 10, .inl g3)), (ak, .inl (cI, 10, .inl g4))]) [0, 1, 2, 3, 4, 5] (by decide) rfl, hS, lv_sub (l' := [(1, .int x7966), (0, .ref h)]) hl [0, 3] rfl⟩
          · skip
            have k7968 : Rg r5343 0 9 := rg_l1 (nleI c7965) k6660 k5 (by decide)
            have k7969 : Rg x1 1 10 := rg_l2 (nleI c7965) k6660 k5 (by decide)
            refine lv_aload_n hx hb dX11_allWays_70 rfl (lv_at hl 3 rfl) ?_
            refine va_get (D := D) (ci := 10) (v := .ref ak) (C := RX11) (T := TX11) (N := 26) hx hb hts iG_X11 hown hK hP 1 rfl rfl 18 (by decide) (hts _ w5_13) (fun _ h9 => h9) rfl dX11_allWays_71 ?_
            refine lv_iload_n hx hb dX11_allWays_74 rfl (lv_at hl 1 rfl) ?_
            refine va_iald hx hb hK hP 5 0 rfl rfl (rg_in k7968 (by decide)) dX11_allWays_75 ?_
            refine lv_topi (fun x7970 ex7970 => ?_)
            have k7971 : Rg x7970 0 4095 := wK_rd k7 ex7970
            refine lv_iload_n hx hb dX11_allWays_76 rfl (lv_at hl 0 rfl) ?_
            refine kpurei (wc := []) hP hD hS hA [] rfl (by decide) (fun hPc hDc hFc => va_runS (As := [.int x7970, .int y7954]) (rest := []) ⟨hx, hb, hml, hown, hts⟩ (r_hasx l D cI cJ cB cC x7970 y7954 H.size) (va_cwS 2 hts gX11_allWays_X11_has rfl rfl rfl hdX11_has ⟨Nat.le_of_ble_eq_true rfl, Nat.le_of_ble_eq_true rfl⟩) ⟨kBlind, fun U hU hW => ⟨rfl, by rw [hU], hN.warm hW, hE.pass hS hFc hW hU, by rw [hU]; exact hPc, va_K.moved hW.alike hK, hDc⟩⟩ rfl rfl hl.1 rfl (lv_room (Nat.le_of_ble_eq_true rfl)) dX11_allWays_77 ⟨Nat.le_of_ble_eq_true rfl, Nat.le_of_ble_eq_true rfl⟩) (fun r7972 u H locs hw hP hS => ?_)
            obtain ⟨k7973, k7974⟩ := hw
            refine lv_if_eq (tgt := 110) hx hb dX11_allWays_80 (by decide) (fun c7992 => ?_) (fun c7992 => ?_)
            · skip
              have k7993 : Rg r7972 0 0 := rg_q1 (eqI c7992) k7974 (rg_lit (n := 0) (by decide)) (by decide)
              obtain ⟨x7994, ex7994⟩ : ∃ y : Int32, y = y7954 + 1 := ⟨_, rfl⟩
              refine lv_iinc (v := x7994) (lv' := [(3, .int x7994), (2, .int r5343), (1, .int y5336), (0, .ref h)]) hx hb dX11_allWays_110 hl (k := 0) rfl (by rw [ex7994]; rfl) (by decide) rfl (fun ls hl => ?_)
              have k7995 : Rg x7994 1 12 := rg_add ex7994 k7963 (rg_lit (n := 1) (by decide)) (by decide)
              refine lv_goto (tgt := 54) hx hb dX11_allWays_113 (by decide) ?_
              exact ih7956 (x7994, g7955) _ _ _ (by show (12 - (x7994).toInt).toNat < (12 - (y7954).toInt).toNat; exact mu_up ex7994 k7963 k7995 (by decide)) ⟨(by rw [(s1_cN (by have q1 := k7963; unfold Rg at q1; omega) (ti_add (Y := 1) ex7994 k7963 (rg_lit (n := 1) (by decide)) (by decide) rfl (by decide)))]; exact inW_skip hX54_0), (by have q1 := (by have q1 := (nleI c7960); rw [k10] at q1; exact q1); have q2 := (ti_add (Y := 1) ex7994 k7963 (rg_lit (n := 1) (by decide)) (by decide) rfl (by decide)); omega), (rg_w k7995 (by decide)), hP.sub (ws' := [(aW, .inl (cJ, 4096, .inr (.inl g7955))), (h, oX11 th aw ai ab ac hi re aP ta po en be de fa a5 sp av an ak x1 aW aC ag aT aN aF), (aw, .inl (cI, 2179, .inl fw)), (av, .inl (cI, 400, .inl g2)), (an, .inl (cI, 10, .inl g3)), (ak, .inl (cI, 10, .inl g4))]) [0, 1, 2, 3, 4, 5] rfl, hD.sub (ws' := [(aW, .inl (cJ, 4096, .inr (.inl g7955))), (h, oX11 th aw ai ab ac hi re aP ta po en be de fa a5 sp av an ak x1 aW aC ag aT aN aF), (aw, .inl (cI, 2179, .inl fw)), (av, .inl (cI, 400, .inl g2)), (an, .inl (cI, 10, .inl g3)), (ak, .inl (cI, 10, .inl g4))]) [0, 1, 2, 3, 4, 5] (by decide) rfl, hS, lv_sub (l' := [(3, .int x7994), (2, .int r5343), (1, .int y5336), (0, .ref h)]) hl [0, 1, 2, 3] rfl⟩
            · skip
              have k7996 : Rg r7972 1 1 := rg_n1 (neI c7992) k7974 (rg_lit (n := 0) (by decide)) (by decide)
              refine lv_iload_n hx hb dX11_allWays_83 rfl (lv_at hl 2 rfl) ?_
              refine lv_iload_n hx hb dX11_allWays_84 rfl (lv_at hl 0 rfl) ?_
              refine kpurei (wc := []) hP hD hS hA [] rfl (by decide) (fun hPc hDc hFc => va_runS (As := [.int y5336, .int y7954]) (rest := []) ⟨hx, hb, hml, hown, hts⟩ (r_hasx l D cI cJ cB cC y5336 y7954 H.size) (va_cwS 2 hts gX11_allWays_X11_has rfl rfl rfl hdX11_has ⟨Nat.le_of_ble_eq_true rfl, Nat.le_of_ble_eq_true rfl⟩) ⟨kBlind, fun U hU hW => ⟨rfl, by rw [hU], hN.warm hW, hE.pass hS hFc hW hU, by rw [hU]; exact hPc, va_K.moved hW.alike hK, hDc⟩⟩ rfl rfl hl.1 rfl (lv_room (Nat.le_of_ble_eq_true rfl)) dX11_allWays_85 ⟨Nat.le_of_ble_eq_true rfl, Nat.le_of_ble_eq_true rfl⟩) (fun r7997 u H locs hw hP hS => ?_)
              obtain ⟨k7998, k7999⟩ := hw
              refine lv_if_ne (tgt := 110) hx hb dX11_allWays_88 (by decide) (fun c8000 => ?_) (fun c8000 => ?_)
              · skip
                have k8001 : Rg r7997 1 1 := rg_n1 (neI c8000) k7999 (rg_lit (n := 0) (by decide)) (by decide)
                obtain ⟨x8002, ex8002⟩ : ∃ y : Int32, y = y7954 + 1 := ⟨_, rfl⟩
                refine lv_iinc (v := x8002) (lv' := [(3, .int x8002), (2, .int r5343), (1, .int y5336), (0, .ref h)]) hx hb dX11_allWays_110 hl (k := 0) rfl (by rw [ex8002]; rfl) (by decide) rfl (fun ls hl => ?_)
                have k8003 : Rg x8002 1 12 := rg_add ex8002 k7963 (rg_lit (n := 1) (by decide)) (by decide)
                refine lv_goto (tgt := 54) hx hb dX11_allWays_113 (by decide) ?_
                exact ih7956 (x8002, g7955) _ _ _ (by show (12 - (x8002).toInt).toNat < (12 - (y7954).toInt).toNat; exact mu_up ex8002 k7963 k8003 (by decide)) ⟨(by rw [(s1_cN (by have q1 := k7963; unfold Rg at q1; omega) (ti_add (Y := 1) ex8002 k7963 (rg_lit (n := 1) (by decide)) (by decide) rfl (by decide)))]; exact inW_skip hX54_0), (by have q1 := (by have q1 := (nleI c7960); rw [k10] at q1; exact q1); have q2 := (ti_add (Y := 1) ex8002 k7963 (rg_lit (n := 1) (by decide)) (by decide) rfl (by decide)); omega), (rg_w k8003 (by decide)), hP.sub (ws' := [(aW, .inl (cJ, 4096, .inr (.inl g7955))), (h, oX11 th aw ai ab ac hi re aP ta po en be de fa a5 sp av an ak x1 aW aC ag aT aN aF), (aw, .inl (cI, 2179, .inl fw)), (av, .inl (cI, 400, .inl g2)), (an, .inl (cI, 10, .inl g3)), (ak, .inl (cI, 10, .inl g4))]) [0, 1, 2, 3, 4, 5] rfl, hD.sub (ws' := [(aW, .inl (cJ, 4096, .inr (.inl g7955))), (h, oX11 th aw ai ab ac hi re aP ta po en be de fa a5 sp av an ak x1 aW aC ag aT aN aF), (aw, .inl (cI, 2179, .inl fw)), (av, .inl (cI, 400, .inl g2)), (an, .inl (cI, 10, .inl g3)), (ak, .inl (cI, 10, .inl g4))]) [0, 1, 2, 3, 4, 5] (by decide) rfl, hS, lv_sub (l' := [(3, .int x8002), (2, .int r5343), (1, .int y5336), (0, .ref h)]) hl [0, 1, 2, 3] rfl⟩
              · skip
                have k8004 : Rg r7997 0 0 := rg_q1 (eqI c8000) k7999 (rg_lit (n := 0) (by decide)) (by decide)
                refine lv_aload_n hx hb dX11_allWays_91 rfl (lv_at hl 3 rfl) ?_
                refine va_get (D := D) (ci := 10) (v := .ref aW) (C := RX11) (T := TX11) (N := 26) hx hb hts iG_X11 hown hK hP 1 rfl rfl 20 (by decide) (hts _ w5_14) (fun _ h9 => h9) rfl dX11_allWays_92 ?_
                refine lv_iload_n hx hb dX11_allWays_95 rfl (lv_at hl 2 rfl) ?_
                refine lv_dup2_11 hx hb dX11_allWays_96 rfl rfl ?_
                refine va_lald hx hb hK hP 0 1 rfl rfl (rg_in k5342 (by decide)) dX11_allWays_97 ?_
                refine lv_topl (fun x8005 ex8005 => ?_)
                refine lv_aload_n hx hb dX11_allWays_98 rfl (lv_at hl 3 rfl) ?_
                refine va_get (D := D) (ci := 10) (v := .ref aW) (C := RX11) (T := TX11) (N := 26) hx hb hts iG_X11 hown hK hP 1 rfl rfl 20 (by decide) (hts _ w5_14) (fun _ h9 => h9) rfl dX11_allWays_99 ?_
                refine lv_iload_n hx hb dX11_allWays_102 rfl (lv_at hl 2 rfl) ?_
                refine lv_iconst (v := 1) hx hb dX11_allWays_103 (by decide) ?_
                refine lv_iload_n hx hb dX11_allWays_104 rfl (lv_at hl 0 rfl) ?_
                refine lv_ishl hx hb dX11_allWays_105 ?_
                refine lv_topi (fun x8006 ex8006 => ?_)
                have k8007 : Rg x8006 1 2048 := rg_shl1 11 ex8006 k7963 (by decide)
                refine lv_ior hx hb dX11_allWays_106 ?_
                refine lv_topi (fun x8008 ex8008 => ?_)
                have k8009 : Rg x8008 0 4095 := rg_or 12 ex8008 k5342 k8007 (by decide)
                refine va_lald hx hb hK hP 0 1 rfl rfl (rg_in k8009 (by decide)) dX11_allWays_107 ?_
                refine lv_topl (fun x8010 ex8010 => ?_)
                refine lv_ladd hx hb dX11_allWays_108 ?_
                refine lv_topl (fun x8011 ex8011 => ?_)
                refine va_last hx hb hK hP hD hS 0 1 rfl rfl (rg_in k5342 (by decide)) dX11_allWays_109 (fun H locs hP hD hS => ?_)
                have hP : va_P D vwCl [(aW, .inl (cJ, 4096, .inr (.inl (vp_updL g7955 y5336.toNatClampNeg x8011)))), (h, oX11 th aw ai ab ac hi re aP ta po en be de fa a5 sp av an ak x1 aW aC ag aT aN aF), (aw, .inl (cI, 2179, .inl fw)), (av, .inl (cI, 400, .inl g2)), (an, .inl (cI, 10, .inl g3)), (ak, .inl (cI, 10, .inl g4))] H := hP
                have hD : va_D A [(aW, .inl (cJ, 4096, .inr (.inl (vp_updL g7955 y5336.toNatClampNeg x8011)))), (h, oX11 th aw ai ab ac hi re aP ta po en be de fa a5 sp av an ak x1 aW aC ag aT aN aF), (aw, .inl (cI, 2179, .inl fw)), (av, .inl (cI, 400, .inl g2)), (an, .inl (cI, 10, .inl g3)), (ak, .inl (cI, 10, .inl g4))] := hD
                generalize hg8012 : (vp_updL g7955 y5336.toNatClampNeg x8011) = g8012 at hP hD
                obtain ⟨x8013, ex8013⟩ : ∃ y : Int32, y = y7954 + 1 := ⟨_, rfl⟩
                refine lv_iinc (v := x8013) (lv' := [(3, .int x8013), (2, .int r5343), (1, .int y5336), (0, .ref h)]) hx hb dX11_allWays_110 hl (k := 0) rfl (by rw [ex8013]; rfl) (by decide) rfl (fun ls hl => ?_)
                have k8014 : Rg x8013 1 12 := rg_add ex8013 k7963 (rg_lit (n := 1) (by decide)) (by decide)
                refine lv_goto (tgt := 54) hx hb dX11_allWays_113 (by decide) ?_
                exact ih7956 (x8013, g8012) _ _ _ (by show (12 - (x8013).toInt).toNat < (12 - (y7954).toInt).toNat; exact mu_up ex8013 k7963 k8014 (by decide)) ⟨(by rw [(s1_cN (by have q1 := k7963; unfold Rg at q1; omega) (ti_add (Y := 1) ex8013 k7963 (rg_lit (n := 1) (by decide)) (by decide) rfl (by decide)))]; exact inW_add (v := x8011) hX54_0 (cn_lt2 (nleI c7965) (by have q1 := k7968; unfold Rg at q1; omega)) (cn_to k7969 (by decide)) (cn_lt2 (by have q1 := (nleI c7960); rw [k10] at q1; exact q1) (by have q1 := k7963; unfold Rg at q1; omega)) (by rw [← k10]; exact cn_to k7964 (by decide)) (elig_of ex7970 (cl_of (k := cN r5343) k7968 (by decide) (by simp only [cN]; have q1 := k7968; unfold Rg at q1; omega)) k7973 k7971 (rg_w k7963 (by decide)) c7992 k7998 k5342 (Int32.toInt_inj.mp (eqI c8000))) (by rw [ex8011, ex8005, ex8010, (cl_of (k := cN y5336) k5342 (by decide) (by simp only [cN]; have q1 := k5342; unfold Rg at q1; omega)), (cl_of (k := cN x8008) k8009 (by decide) (by simp only [cN]; have q1 := k8009; unfold Rg at q1; omega)), (or_bit ex8006 ex8008 k5342 (rg_w k7963 (by decide))).1]) (by rw [← (cl_of (k := cN y5336) k5342 (by decide) (by simp only [cN]; have q1 := k5342; unfold Rg at q1; omega))]; exact hg8012)), (by have q1 := (by have q1 := (nleI c7960); rw [k10] at q1; exact q1); have q2 := (ti_add (Y := 1) ex8013 k7963 (rg_lit (n := 1) (by decide)) (by decide) rfl (by decide)); omega), (rg_w k8014 (by decide)), hP.sub (ws' := [(aW, .inl (cJ, 4096, .inr (.inl g8012))), (h, oX11 th aw ai ab ac hi re aP ta po en be de fa a5 sp av an ak x1 aW aC ag aT aN aF), (aw, .inl (cI, 2179, .inl fw)), (av, .inl (cI, 400, .inl g2)), (an, .inl (cI, 10, .inl g3)), (ak, .inl (cI, 10, .inl g4))]) [0, 1, 2, 3, 4, 5] rfl, hD.sub (ws' := [(aW, .inl (cJ, 4096, .inr (.inl g8012))), (h, oX11 th aw ai ab ac hi re aP ta po en be de fa a5 sp av an ak x1 aW aC ag aT aN aF), (aw, .inl (cI, 2179, .inl fw)), (av, .inl (cI, 400, .inl g2)), (an, .inl (cI, 10, .inl g3)), (ak, .inl (cI, 10, .inl g4))]) [0, 1, 2, 3, 4, 5] (by decide) rfl, hS, lv_sub (l' := [(3, .int x8013), (2, .int r5343), (1, .int y5336), (0, .ref h)]) hl [0, 1, 2, 3] rfl⟩
    · skip
      have k8015 : Rg r5343 1 12 := rg_l2 (nleI c6659) k5 k5346 (by decide)
      refine lv_goto (tgt := 116) hx hb dX11_allWays_30 (by decide) ?_
      obtain ⟨x8016, ex8016⟩ : ∃ y : Int32, y = y5336 + (-1) := ⟨_, rfl⟩
      refine lv_iinc (v := x8016) (lv' := [(1, .int x8016), (2, .int r5343), (0, .ref h)]) hx hb dX11_allWays_116 hl (k := 1) rfl (by rw [ex8016]; rfl) (by decide) rfl (fun ls hl => ?_)
      have k8017 : Rg x8016 (-1) 4094 := rg_add ex8016 k5342 (rg_lit (n := -1) (by decide)) (by decide)
      refine lv_goto (tgt := 13) hx hb dX11_allWays_119 (by decide) ?_
      exact ih5338 (x8016, g5337) _ _ _ (by show ((x8016).toInt - (-1)).toNat < ((y5336).toInt - (-1)).toNat; exact mu_dn ex8016 k5342 k8017 (by decide)) ⟨(tW_out (tW_over (tW_in hX13_0 (by have q1 := k5342; unfold Rg at q1; omega)) (by rw [← (kc_pop k5344 k5342)]; exact cn_lt2 (nleI c6659) (by have q1 := k5; unfold Rg at q1; omega))) (ti_add (Y := -1) ex8016 k5342 (rg_lit (n := -1) (by decide)) (by decide) rfl (by decide))), (by have q1 := hX13_1; have q2 := (ti_add (Y := -1) ex8016 k5342 (rg_lit (n := -1) (by decide)) (by decide) rfl (by decide)); omega), (by have q1 := k5342; have q2 := (ti_add (Y := -1) ex8016 k5342 (rg_lit (n := -1) (by decide)) (by decide) rfl (by decide)); unfold Rg at q1; omega), (rg_w k8017 (by decide)), hP.sub (ws' := [(aW, .inl (cJ, 4096, .inr (.inl g5337))), (h, oX11 th aw ai ab ac hi re aP ta po en be de fa a5 sp av an ak x1 aW aC ag aT aN aF), (aw, .inl (cI, 2179, .inl fw)), (av, .inl (cI, 400, .inl g2)), (an, .inl (cI, 10, .inl g3)), (ak, .inl (cI, 10, .inl g4))]) [0, 1, 2, 3, 4, 5] rfl, hD.sub (ws' := [(aW, .inl (cJ, 4096, .inr (.inl g5337))), (h, oX11 th aw ai ab ac hi re aP ta po en be de fa a5 sp av an ak x1 aW aC ag aT aN aF), (aw, .inl (cI, 2179, .inl fw)), (av, .inl (cI, 400, .inl g2)), (an, .inl (cI, 10, .inl g3)), (ak, .inl (cI, 10, .inl g4))]) [0, 1, 2, 3, 4, 5] (by decide) rfl, hS, lv_sub (l' := [(1, .int x8016), (0, .ref h)]) hl [0, 2] rfl⟩

set_option maxHeartbeats 4000000 in
set_option maxRecDepth 100000 in
/-- reference: leastCost -/
theorem r_leastCostx (l : Launch) (D : va_G) (cI cJ cB cC : ClassId) (h : Nat) (th : Int32) (aw : Nat) (ai : Nat) (ab : Nat) (ac : Nat) (hi : Int32) (re : Int32) (aP : Nat) (ta : Int32) (po : Int32) (en : Int32) (be : Int32) (de : Int32) (fa : Int32) (a5 : Nat) (sp : Int32) (av : Nat) (an : Nat) (ak : Nat) (ne : Int32) (aW : Nat) (aC : Nat) (ag : Nat) (aT : Nat) (aN : Nat) (aF : Nat) (fw : Nat → Int32) (fv : Nat → Int32) (fn : Nat → Int32) (fk : Nat → Int32) (fC : Nat → Int32) (sz : Nat) (H_fw_W : wW fw) (H_fw_L : wL fw) (H_fn_N : wN fn) (H_fk_K : wK fk) (H_fC_F : wF fC) : Met l yX11_leastCost kwX11_leastCost ({ frames := 8, cells := 0, slots := 0, locals := 188 } : Room) (kPre D (kT cI cJ cB cC) sz [(h, oX11 th aw ai ab ac hi re aP ta po en be de fa a5 sp av an ak ne aW aC ag aT aN aF), (aw, .inl (cI, 2179, .inl fw)), (av, .inl (cI, 400, .inl fv)), (an, .inl (cI, 10, .inl fn)), (ak, .inl (cI, 10, .inl fk)), (aC, .inl (cI, 4096, .inl fC))] [.ref h]) (va_Qi (fun (r : Int32) (uu : Int32 × (Nat → Int32) × (Nat → Int32) × (Nat → Int32) × (Nat → Int32)) => match uu with | (n0_, f1_, f2_, f3_, f4_) => Rg n0_ 0 10 ∧ wN f2_ ∧ wK f3_ ∧ wF f4_ ∧ Rg r 0 1000000 ∧ (tC f4_ (fun k9 s9 => (cF fw (f2_ k9) (nI s9)).toInt) f3_ (cN n0_) (cN (fw 1)) 0) ∧ (lkP fw f2_ f3_ n0_ (cN (fw 0)))) (fun (uu : Int32 × (Nat → Int32) × (Nat → Int32) × (Nat → Int32) × (Nat → Int32)) (t : State) => match uu with | (n0_, f1_, f2_, f3_, f4_) => kB D (kT cI cJ cB cC) (va_A [(h, oX11 th aw ai ab ac hi re aP ta po en be de fa a5 sp av an ak ne aW aC ag aT aN aF), (aw, .inl (cI, 2179, .inl fw)), (av, .inl (cI, 400, .inl fv)), (an, .inl (cI, 10, .inl fn)), (ak, .inl (cI, 10, .inl fk)), (aC, .inl (cI, 4096, .inl fC))] sz) [(h, oX11 th aw ai ab ac hi re aP ta po en be de fa a5 sp av an ak n0_ aW aC ag aT aN aF), (aw, .inl (cI, 2179, .inl fw)), (av, .inl (cI, 400, .inl f1_)), (an, .inl (cI, 10, .inl f2_)), (ak, .inl (cI, 10, .inl f3_)), (aC, .inl (cI, 4096, .inl f4_))] t) (va_A [(h, oX11 th aw ai ab ac hi re aP ta po en be de fa a5 sp av an ak ne aW aC ag aT aN aF), (aw, .inl (cI, 2179, .inl fw)), (av, .inl (cI, 400, .inl fv)), (an, .inl (cI, 10, .inl fn)), (ak, .inl (cI, 10, .inl fk)), (aC, .inl (cI, 4096, .inl fC))] sz)) 0 0 (va_A [(h, oX11 th aw ai ab ac hi re aP ta po en be de fa a5 sp av an ak ne aW aC ag aT aN aF), (aw, .inl (cI, 2179, .inl fw)), (av, .inl (cI, 400, .inl fv)), (an, .inl (cI, 10, .inl fn)), (ak, .inl (cI, 10, .inl fk)), (aC, .inl (cI, 4096, .inl fC))] sz) := by
  refine Met.ofW (cc := cX11_leastCost) (maxL := 4) (ret := (some .int)) (by decide) rfl ?_
  intro p e s m args below meth c s₁ B hml hv
  obtain ⟨rfl, hsz, hN, hE, hP, hK, hD0⟩ := hv
  have hx := B.exec
  have hb := B.bytes
  have hr := B.returns
  have hts := fun (w : Cond) (h : w ∈ kG) => atoms_spec (ws := kwX11_leastCost) B.pre w (List.mem_cons_of_mem _ h)
  have hown : s.vm.findClass RX11 = some m.cls := findClass_of_methodNamed B.named
  subst hsz
  have hD := hD0.self (sz := s.heap.size)
  generalize hAe : va_A [(h, oX11 th aw ai ab ac hi re aP ta po en be de fa a5 sp av an ak ne aW aC ag aT aN aF), (aw, .inl (cI, 2179, .inl fw)), (av, .inl (cI, 400, .inl fv)), (an, .inl (cI, 10, .inl fn)), (ak, .inl (cI, 10, .inl fk)), (aC, .inl (cI, 4096, .inl fC))] s.heap.size = A at hD hE ⊢
  have hA : ∀ q : Nat, s.heap.size ≤ q → A q := fun q h => by rw [← hAe]; exact Or.inr h
  have hl := lv_entry ([.ref h]) (n := 4) (Nat.le_of_ble_eq_true rfl)
  rw [lg_entry_eq]
  generalize (lg_sl ([.ref h]) ++ List.replicate (4 - (lg_sl ([.ref h])).length) Slot.unset).toArray = ls at hl ⊢
  have hl : lv_has ls 4 [(0, .ref h)] := hl
  obtain ⟨H, hH0⟩ : ∃ H, H = s.heap := ⟨_, rfl⟩
  have hS : va_S A s.heap H [] := by rw [hH0]; exact va_S.rf
  have hP : va_P D vwCl [(h, oX11 th aw ai ab ac hi re aP ta po en be de fa a5 sp av an ak ne aW aC ag aT aN aF), (aw, .inl (cI, 2179, .inl fw)), (av, .inl (cI, 400, .inl fv)), (an, .inl (cI, 10, .inl fn)), (ak, .inl (cI, 10, .inl fk)), (aC, .inl (cI, 4096, .inl fC))] H := by rw [hH0]; exact hP
  refine kHeap hH0 ?_
  clear hH0
  refine lv_aload_n hx hb dX11_leastCost_0 rfl (lv_at hl 0 rfl) ?_
  refine kcallv (wc := [(h, oX11 th aw ai ab ac hi re aP ta po en be de fa a5 sp av an ak ne aW aC ag aT aN aF), (aw, .inl (cI, 2179, .inl fw)), (av, .inl (cI, 400, .inl fv)), (an, .inl (cI, 10, .inl fn)), (ak, .inl (cI, 10, .inl fk))]) (wr := [(aC, .inl (cI, 4096, .inl fC))]) hP hD hS hA [0, 1, 2, 3, 4] [5] rfl rfl (by decide) (by decide) (by decide) (fun hPc hDc hFc => va_runV (As := []) (rest := []) ⟨hx, hb, hml, hown, hts⟩ (r_looksx l D cI cJ cB cC h th aw ai ab ac hi re aP ta po en be de fa a5 sp av an ak ne aW aC ag aT aN aF fw fv fn fk H.size H_fw_W H_fw_L H_fn_N H_fk_K) (cwV 0 hts gX11_leastCost_X11_looks rfl rfl rfl ⟨rfl, hdX11_looks⟩ ⟨Nat.le_of_ble_eq_true rfl, Nat.le_of_ble_eq_true rfl⟩) ⟨kBlind, va_recv hK hPc (ci := 10) (q0 := 0) rfl rfl, fun U hU hW => ⟨rfl, by rw [hU], hN.warm hW, hE.pass hS hFc hW hU, by rw [hU]; exact hPc, va_K.moved hW.alike hK, hDc⟩⟩ rfl rfl hl.1 rfl (lv_room (Nat.le_of_ble_eq_true rfl)) dX11_leastCost_1 ⟨Nat.le_of_ble_eq_true rfl, Nat.le_of_ble_eq_true rfl⟩) (fun u H locs hw hP hD hS => ?_)
  obtain ⟨x1, g2, g3, g4⟩ := u
  have hP : va_P D vwCl [(aC, .inl (cI, 4096, .inl fC)), (h, oX11 th aw ai ab ac hi re aP ta po en be de fa a5 sp av an ak x1 aW aC ag aT aN aF), (aw, .inl (cI, 2179, .inl fw)), (av, .inl (cI, 400, .inl g2)), (an, .inl (cI, 10, .inl g3)), (ak, .inl (cI, 10, .inl g4))] H := hP
  have hD : va_D A [(aC, .inl (cI, 4096, .inl fC)), (h, oX11 th aw ai ab ac hi re aP ta po en be de fa a5 sp av an ak x1 aW aC ag aT aN aF), (aw, .inl (cI, 2179, .inl fw)), (av, .inl (cI, 400, .inl g2)), (an, .inl (cI, 10, .inl g3)), (ak, .inl (cI, 10, .inl g4))] := hD
  obtain ⟨k5, k6, k7, k8⟩ := hw
  refine lv_iconst (v := 1) hx hb dX11_leastCost_4 (by decide) ?_
  refine lv_aload_n hx hb dX11_leastCost_5 rfl (lv_at hl 0 rfl) ?_
  refine kpurei (wc := [(h, oX11 th aw ai ab ac hi re aP ta po en be de fa a5 sp av an ak x1 aW aC ag aT aN aF), (aw, .inl (cI, 2179, .inl fw))]) hP hD hS hA [1, 2] rfl (by decide) (fun hPc hDc hFc => va_runV (As := []) (rest := [.int 1]) ⟨hx, hb, hml, hown, hts⟩ (r_shirts l D cI cJ cB cC h th aw ai ab ac hi re aP ta po en be de fa a5 sp av an ak x1 aW aC ag aT aN aF fw H.size H_fw_W) (cwV 0 hts gX11_leastCost_X11_shirts rfl rfl rfl ⟨rfl, hdX11_shirts⟩ ⟨Nat.le_of_ble_eq_true rfl, Nat.le_of_ble_eq_true rfl⟩) ⟨kBlind, va_recv hK hPc (ci := 10) (q0 := 0) rfl rfl, fun U hU hW => ⟨rfl, by rw [hU], hN.warm hW, hE.pass hS hFc hW hU, by rw [hU]; exact hPc, va_K.moved hW.alike hK, hDc⟩⟩ rfl rfl hl.1 rfl (lv_room (Nat.le_of_ble_eq_true rfl)) dX11_leastCost_6 ⟨Nat.le_of_ble_eq_true rfl, Nat.le_of_ble_eq_true rfl⟩) (fun r9 u H locs hw hP hS => ?_)
  obtain ⟨k10, k11⟩ := hw
  refine lv_ishl hx hb dX11_leastCost_9 ?_
  refine lv_topi (fun x12 ex12 => ?_)
  have k13 : Rg x12 1 4096 := rg_shl1 12 ex12 k11 (by decide)
  refine lv_iconst (v := 1) hx hb dX11_leastCost_10 (by decide) ?_
  refine lv_isub hx hb dX11_leastCost_11 ?_
  refine lv_topi (fun x14 ex14 => ?_)
  have tx14 : x14.toInt = x12.toInt - 1 := ti_sub ex14 k13 (rg_lit (n := 1) (by decide)) (by decide) rfl (by decide)
  have k15 : Rg x14 0 4095 := rg_sub ex14 k13 (rg_lit (n := 1) (by decide)) (by decide)
  refine lv_istore_n (lv' := [(1, .int x14), (0, .ref h)]) hx hb dX11_leastCost_12 rfl hl (by decide) rfl (fun ls hl => ?_)
  refine k_loop (hd := 13) (fun (u : Int32 × (Nat → Int32) × (Nat → Int32)) => match u with | (y7107, g7108, g7109) => ((y7107).toInt - (-1)).toNat) (fun (u : Int32 × (Nat → Int32) × (Nat → Int32)) (H : Heap) (locs : List Loc) (ls : Array Slot) => match u with | (y7107, g7108, g7109) => (tC g7108 (fun k9 s9 => (cF fw (g3 k9) (nI s9)).toInt) g4 (cN x1) (cN (fw 1)) ((y7107 : Int32).toInt + 1).toNat) ∧ ((y7107 : Int32).toInt < ((2 ^ cN (fw 1) : Nat) : Int)) ∧ (-1 ≤ (y7107 : Int32).toInt) ∧ Rg y7107 (-1) 4095 ∧ wF g7108 ∧ va_P D vwCl [(aC, .inl (cI, 4096, .inl g7108)), (h, oX11 th aw ai ab ac hi re aP ta po en be de fa a5 sp av an ak x1 aW aC ag aT aN aF), (aw, .inl (cI, 2179, .inl fw)), (av, .inl (cI, 400, .inl g7109)), (an, .inl (cI, 10, .inl g3)), (ak, .inl (cI, 10, .inl g4))] H ∧ va_D A [(aC, .inl (cI, 4096, .inl g7108)), (h, oX11 th aw ai ab ac hi re aP ta po en be de fa a5 sp av an ak x1 aW aC ag aT aN aF), (aw, .inl (cI, 2179, .inl fw)), (av, .inl (cI, 400, .inl g7109)), (an, .inl (cI, 10, .inl g3)), (ak, .inl (cI, 10, .inl g4))] ∧ va_S A s.heap H locs ∧ lv_has ls 4 [(1, .int y7107), (0, .ref h)]) (x14, fC, g2) ⟨(by rw [← k10]; exact tC_top (shl_top ex12 ex14 k11).1), (by rw [← k10]; exact lt_p1 (shl_top ex12 ex14 k11).1), (by have q1 := k15; unfold Rg at q1; omega), (rg_w k15 (by decide)), H_fC_F, hP.sub (ws' := [(aC, .inl (cI, 4096, .inl fC)), (h, oX11 th aw ai ab ac hi re aP ta po en be de fa a5 sp av an ak x1 aW aC ag aT aN aF), (aw, .inl (cI, 2179, .inl fw)), (av, .inl (cI, 400, .inl g2)), (an, .inl (cI, 10, .inl g3)), (ak, .inl (cI, 10, .inl g4))]) [0, 1, 2, 3, 4, 5] rfl, hD.sub (ws' := [(aC, .inl (cI, 4096, .inl fC)), (h, oX11 th aw ai ab ac hi re aP ta po en be de fa a5 sp av an ak x1 aW aC ag aT aN aF), (aw, .inl (cI, 2179, .inl fw)), (av, .inl (cI, 400, .inl g2)), (an, .inl (cI, 10, .inl g3)), (ak, .inl (cI, 10, .inl g4))]) [0, 1, 2, 3, 4, 5] (by decide) rfl, hS, lv_sub (l' := [(1, .int x14), (0, .ref h)]) hl [0, 1] rfl⟩ (fun u H locs ls hI ih7110 => ?_)
  clear hP hD hS hl
  obtain ⟨y7107, g7108, g7109⟩ := u
  obtain ⟨hX13_0, hX13_1, hX13_2, hy7107, hg7108_0, hP, hD, hS, hl⟩ := hI
  have hP : va_P D vwCl [(aC, .inl (cI, 4096, .inl g7108)), (h, oX11 th aw ai ab ac hi re aP ta po en be de fa a5 sp av an ak x1 aW aC ag aT aN aF), (aw, .inl (cI, 2179, .inl fw)), (av, .inl (cI, 400, .inl g7109)), (an, .inl (cI, 10, .inl g3)), (ak, .inl (cI, 10, .inl g4))] H := hP
  have hD : va_D A [(aC, .inl (cI, 4096, .inl g7108)), (h, oX11 th aw ai ab ac hi re aP ta po en be de fa a5 sp av an ak x1 aW aC ag aT aN aF), (aw, .inl (cI, 2179, .inl fw)), (av, .inl (cI, 400, .inl g7109)), (an, .inl (cI, 10, .inl g3)), (ak, .inl (cI, 10, .inl g4))] := hD
  have hl : lv_has ls 4 [(1, .int y7107), (0, .ref h)] := hl
  refine lv_iload_n hx hb dX11_leastCost_13 rfl (lv_at hl 0 rfl) ?_
  refine lv_if_lt (tgt := 142) hx hb dX11_leastCost_14 (by decide) (fun c7111 => ?_) (fun c7111 => ?_)
  · skip
    have k7112 : Rg y7107 (-1) (-1) := rg_l1 (ltI c7111) hy7107 (rg_lit (n := 0) (by decide)) (by decide)
    refine lv_aload_n hx hb dX11_leastCost_142 rfl (lv_at hl 1 rfl) ?_
    refine va_get (D := D) (ci := 10) (v := .ref aC) (C := RX11) (T := TX11) (N := 26) hx hb hts iG_X11 hown hK hP 1 rfl rfl 21 (by decide) (hts _ w5_15) (fun _ h9 => h9) rfl dX11_leastCost_143 ?_
    refine lv_iconst (v := 0) hx hb dX11_leastCost_146 (by decide) ?_
    refine va_iald hx hb hK hP 0 0 rfl rfl (rg_in (rg_lit (n := 0) (by decide)) (by decide)) dX11_leastCost_147 ?_
    refine lv_topi (fun x7113 ex7113 => ?_)
    have k7114 : Rg x7113 0 1000000 := wF_rd hg7108_0 ex7113
    have hP9 := hP.sub (ws' := [(h, oX11 th aw ai ab ac hi re aP ta po en be de fa a5 sp av an ak x1 aW aC ag aT aN aF), (aw, .inl (cI, 2179, .inl fw)), (av, .inl (cI, 400, .inl g7109)), (an, .inl (cI, 10, .inl g3)), (ak, .inl (cI, 10, .inl g4)), (aC, .inl (cI, 4096, .inl g7108))]) [1, 2, 3, 4, 5, 0] rfl
    have hD9 := hD.sub (ws' := [(h, oX11 th aw ai ab ac hi re aP ta po en be de fa a5 sp av an ak x1 aW aC ag aT aN aF), (aw, .inl (cI, 2179, .inl fw)), (av, .inl (cI, 400, .inl g7109)), (an, .inl (cI, 10, .inl g3)), (ak, .inl (cI, 10, .inl g4)), (aC, .inl (cI, 4096, .inl g7108))]) [1, 2, 3, 4, 5, 0] (by decide) rfl
    exact W.iret (v := x7113) hx hb hr (fun t ht hW => ⟨⟨x7113, (x1, g7109, g3, g4, g7108), rfl, ⟨k5, k6, k7, hg7108_0, k7114, (tC_all hX13_0 (by have q1 := (ltI c7111); have q2 : (0 : Int32).toInt = 0 := (by decide); omega)), k8⟩, by rw [ht]; exact hP9, va_K.moved hW.alike hK, hD9⟩, hS.F ht⟩) hS.2.2 dX11_leastCost_148
  · skip
    have k7115 : Rg y7107 0 4095 := rg_e2 (nltI c7111) (rg_lit (n := 0) (by decide)) hy7107 (by decide)
    refine lv_iload_n hx hb dX11_leastCost_17 rfl (lv_at hl 0 rfl) ?_
    refine kpurei (wc := []) hP hD hS hA [] rfl (by decide) (fun hPc hDc hFc => va_runS (As := [.int y7107]) (rest := []) ⟨hx, hb, hml, hown, hts⟩ (z_bitCountx l D cI cJ cB cC y7107 H.size) (va_cwS 1 hts gX11_leastCost_J6_bitCount_0f7a4 rfl rfl rfl hdJ6_bitCount_0f7a4 ⟨Nat.le_of_ble_eq_true rfl, Nat.le_of_ble_eq_true rfl⟩) ⟨kBlind, fun U hU hW => ⟨rfl, by rw [hU], hN.warm hW, hE.pass hS hFc hW hU, by rw [hU]; exact hPc, va_K.moved hW.alike hK, hDc⟩⟩ rfl rfl hl.1 rfl (lv_room (Nat.le_of_ble_eq_true rfl)) dX11_leastCost_18 ⟨Nat.le_of_ble_eq_true rfl, Nat.le_of_ble_eq_true rfl⟩) (fun r7116 u H locs hw hP hS => ?_)
    obtain ⟨k7117, k7118⟩ := hw
    have k7119 : Rg r7116 0 12 := (kBC_rg k7117 k7115).2
    refine lv_istore_n (lv' := [(2, .int r7116), (1, .int y7107), (0, .ref h)]) hx hb dX11_leastCost_21 rfl hl (by decide) rfl (fun ls hl => ?_)
    refine lv_iload_n hx hb dX11_leastCost_22 rfl (lv_at hl 0 rfl) ?_
    refine lv_aload_n hx hb dX11_leastCost_23 rfl (lv_at hl 2 rfl) ?_
    refine va_get (D := D) (ci := 10) (v := .int x1) (C := RX11) (T := TX11) (N := 26) hx hb hts iG_X11 hown hK hP 1 rfl rfl 19 (by decide) (hts _ w40_7) (fun _ h9 => h9) rfl dX11_leastCost_24 ?_
    refine lv_icmp_le (tgt := 33) hx hb dX11_leastCost_27 (by decide) (fun c8874 => ?_) (fun c8874 => ?_)
    · skip
      have k8875 : Rg r7116 0 10 := rg_e1 (leI c8874) k7119 k5 (by decide)
      refine lv_aload_n hx hb dX11_leastCost_33 rfl (lv_at hl 2 rfl) ?_
      refine va_get (D := D) (ci := 10) (v := .ref aC) (C := RX11) (T := TX11) (N := 26) hx hb hts iG_X11 hown hK hP 1 rfl rfl 21 (by decide) (hts _ w5_15) (fun _ h9 => h9) rfl dX11_leastCost_34 ?_
      refine lv_iload_n hx hb dX11_leastCost_37 rfl (lv_at hl 1 rfl) ?_
      refine lv_iload_n hx hb dX11_leastCost_38 rfl (lv_at hl 0 rfl) ?_
      refine lv_aload_n hx hb dX11_leastCost_39 rfl (lv_at hl 2 rfl) ?_
      refine va_get (D := D) (ci := 10) (v := .int x1) (C := RX11) (T := TX11) (N := 26) hx hb hts iG_X11 hown hK hP 1 rfl rfl 19 (by decide) (hts _ w40_7) (fun _ h9 => h9) rfl dX11_leastCost_40 ?_
      refine lv_icmp_ne (tgt := 50) hx hb dX11_leastCost_43 (by decide) (fun c8877 => ?_) (fun c8877 => ?_)
      · skip
        refine lv_ldcw (v := 1000000) hx hb hown (hts _ w42_16) dX11_leastCost_50 ?_
        refine va_iast hx hb hK hP hD hS 0 0 rfl rfl (rg_in k7115 (by decide)) dX11_leastCost_53 (fun H locs hP hD hS => ?_)
        have hP : va_P D vwCl [(aC, .inl (cI, 4096, .inl (upd g7108 y7107.toNatClampNeg 1000000))), (h, oX11 th aw ai ab ac hi re aP ta po en be de fa a5 sp av an ak x1 aW aC ag aT aN aF), (aw, .inl (cI, 2179, .inl fw)), (av, .inl (cI, 400, .inl g7109)), (an, .inl (cI, 10, .inl g3)), (ak, .inl (cI, 10, .inl g4))] H := hP
        have hD : va_D A [(aC, .inl (cI, 4096, .inl (upd g7108 y7107.toNatClampNeg 1000000))), (h, oX11 th aw ai ab ac hi re aP ta po en be de fa a5 sp av an ak x1 aW aC ag aT aN aF), (aw, .inl (cI, 2179, .inl fw)), (av, .inl (cI, 400, .inl g7109)), (an, .inl (cI, 10, .inl g3)), (ak, .inl (cI, 10, .inl g4))] := hD
        have k8879 : wF (upd g7108 y7107.toNatClampNeg 1000000) := wF_upd hg7108_0 (rg_w (rg_lit (n := 1000000) (by decide)) (by decide))
        generalize hg8878 : (upd g7108 y7107.toNatClampNeg 1000000) = g8878 at hP hD k8879
        refine lv_iconst (v := 0) hx hb dX11_leastCost_54 (by decide) ?_
        refine lv_istore_n (lv' := [(3, .int 0), (2, .int r7116), (1, .int y7107), (0, .ref h)]) hx hb dX11_leastCost_55 rfl hl (by decide) rfl (fun ls hl => ?_)
        refine k_loop (hd := 56) (fun (u : Int32 × (Nat → Int32) × (Nat → Int32)) => match u with | (y9701, g9702, g9703) => (12 - (y9701).toInt).toNat) (fun (u : Int32 × (Nat → Int32) × (Nat → Int32)) (H : Heap) (locs : List Loc) (ls : Array Slot) => match u with | (y9701, g9702, g9703) => (inC g9702 (fun k9 s9 => (cF fw (g3 k9) (nI s9)).toInt) g4 (cN x1) (cN (fw 1)) (cN y7107) (cN r7116) (cN y9701)) ∧ ((y9701 : Int32).toInt ≤ (fw 1).toInt) ∧ Rg y9701 0 12 ∧ wF g9702 ∧ va_P D vwCl [(aC, .inl (cI, 4096, .inl g9702)), (h, oX11 th aw ai ab ac hi re aP ta po en be de fa a5 sp av an ak x1 aW aC ag aT aN aF), (aw, .inl (cI, 2179, .inl fw)), (av, .inl (cI, 400, .inl g9703)), (an, .inl (cI, 10, .inl g3)), (ak, .inl (cI, 10, .inl g4))] H ∧ va_D A [(aC, .inl (cI, 4096, .inl g9702)), (h, oX11 th aw ai ab ac hi re aP ta po en be de fa a5 sp av an ak x1 aW aC ag aT aN aF), (aw, .inl (cI, 2179, .inl fw)), (av, .inl (cI, 400, .inl g9703)), (an, .inl (cI, 10, .inl g3)), (ak, .inl (cI, 10, .inl g4))] ∧ va_S A s.heap H locs ∧ lv_has ls 4 [(3, .int y9701), (2, .int r7116), (1, .int y7107), (0, .ref h)]) ((0 : Int32), g8878, g7109) ⟨(by have q0 : cN (0 : Int32) = 0 := (by decide); rw [q0]; exact inC_new (tC_in hX13_0 (by have q1 := k7115; unfold Rg at q1; omega)) (by rw [← (cl_of (k := cN y7107) k7115 (by decide) (by simp only [cN]; have q1 := k7115; unfold Rg at q1; omega))]; exact hg8878) (kc_pop k7117 k7115) (cn_le (leI c8874)) (cn_lt hX13_1 (by have q1 := k7115; unfold Rg at q1; omega)) (Or.inr ⟨cn_lt2 (by have q1 := (leI c8874); have q2 := neI c8877; omega) (by have q1 := k8875; unfold Rg at q1; omega), rfl⟩)), (by rw [← k10]; have q1 := k11; unfold Rg at q1; have q2 : (0 : Int32).toInt = 0 := (by decide); omega), (rg_w (rg_lit (n := 0) (by decide)) (by decide)), k8879, hP.sub (ws' := [(aC, .inl (cI, 4096, .inl g8878)), (h, oX11 th aw ai ab ac hi re aP ta po en be de fa a5 sp av an ak x1 aW aC ag aT aN aF), (aw, .inl (cI, 2179, .inl fw)), (av, .inl (cI, 400, .inl g7109)), (an, .inl (cI, 10, .inl g3)), (ak, .inl (cI, 10, .inl g4))]) [0, 1, 2, 3, 4, 5] rfl, hD.sub (ws' := [(aC, .inl (cI, 4096, .inl g8878)), (h, oX11 th aw ai ab ac hi re aP ta po en be de fa a5 sp av an ak x1 aW aC ag aT aN aF), (aw, .inl (cI, 2179, .inl fw)), (av, .inl (cI, 400, .inl g7109)), (an, .inl (cI, 10, .inl g3)), (ak, .inl (cI, 10, .inl g4))]) [0, 1, 2, 3, 4, 5] (by decide) rfl, hS, lv_sub (l' := [(3, .int 0), (2, .int r7116), (1, .int y7107), (0, .ref h)]) hl [0, 1, 2, 3] rfl⟩ (fun u H locs ls hI ih9704 => ?_)
        clear hP hD hS hl
        obtain ⟨y9701, g9702, g9703⟩ := u
        obtain ⟨hX56_0, hX56_1, hy9701, hg9702_0, hP, hD, hS, hl⟩ := hI
        have hP : va_P D vwCl [(aC, .inl (cI, 4096, .inl g9702)), (h, oX11 th aw ai ab ac hi re aP ta po en be de fa a5 sp av an ak x1 aW aC ag aT aN aF), (aw, .inl (cI, 2179, .inl fw)), (av, .inl (cI, 400, .inl g9703)), (an, .inl (cI, 10, .inl g3)), (ak, .inl (cI, 10, .inl g4))] H := hP
        have hD : va_D A [(aC, .inl (cI, 4096, .inl g9702)), (h, oX11 th aw ai ab ac hi re aP ta po en be de fa a5 sp av an ak x1 aW aC ag aT aN aF), (aw, .inl (cI, 2179, .inl fw)), (av, .inl (cI, 400, .inl g9703)), (an, .inl (cI, 10, .inl g3)), (ak, .inl (cI, 10, .inl g4))] := hD
        have hl : lv_has ls 4 [(3, .int y9701), (2, .int r7116), (1, .int y7107), (0, .ref h)] := hl
        refine lv_iload_n hx hb dX11_leastCost_56 rfl (lv_at hl 0 rfl) ?_
        refine lv_aload_n hx hb dX11_leastCost_57 rfl (lv_at hl 3 rfl) ?_
        refine kpurei (wc := [(h, oX11 th aw ai ab ac hi re aP ta po en be de fa a5 sp av an ak x1 aW aC ag aT aN aF), (aw, .inl (cI, 2179, .inl fw))]) hP hD hS hA [1, 2] rfl (by decide) (fun hPc hDc hFc => va_runV (As := []) (rest := [.int y9701]) ⟨hx, hb, hml, hown, hts⟩ (r_shirts l D cI cJ cB cC h th aw ai ab ac hi re aP ta po en be de fa a5 sp av an ak x1 aW aC ag aT aN aF fw H.size H_fw_W) (cwV 0 hts gX11_leastCost_X11_shirts rfl rfl rfl ⟨rfl, hdX11_shirts⟩ ⟨Nat.le_of_ble_eq_true rfl, Nat.le_of_ble_eq_true rfl⟩) ⟨kBlind, va_recv hK hPc (ci := 10) (q0 := 0) rfl rfl, fun U hU hW => ⟨rfl, by rw [hU], hN.warm hW, hE.pass hS hFc hW hU, by rw [hU]; exact hPc, va_K.moved hW.alike hK, hDc⟩⟩ rfl rfl hl.1 rfl (lv_room (Nat.le_of_ble_eq_true rfl)) dX11_leastCost_58 ⟨Nat.le_of_ble_eq_true rfl, Nat.le_of_ble_eq_true rfl⟩) (fun r9705 u H locs hw hP hS => ?_)
        obtain ⟨k9706, k9707⟩ := hw
        obtain rfl : r9 = r9705 := k10.trans k9706.symm
        refine lv_icmp_ge (tgt := 136) hx hb dX11_leastCost_61 (by decide) (fun c9708 => ?_) (fun c9708 => ?_)
        · skip
          obtain ⟨x9709, ex9709⟩ : ∃ y : Int32, y = y7107 + (-1) := ⟨_, rfl⟩
          refine lv_iinc (v := x9709) (lv' := [(1, .int x9709), (3, .int y9701), (2, .int r7116), (0, .ref h)]) hx hb dX11_leastCost_136 hl (k := 2) rfl (by rw [ex9709]; rfl) (by decide) rfl (fun ls hl => ?_)
          have k9710 : Rg x9709 (-1) 4094 := rg_add ex9709 k7115 (rg_lit (n := -1) (by decide)) (by decide)
          refine lv_goto (tgt := 13) hx hb dX11_leastCost_139 (by decide) ?_
          exact ih7110 (x9709, g9702, g9703) _ _ _ (by show ((x9709).toInt - (-1)).toNat < ((y7107).toInt - (-1)).toNat; exact mu_dn ex9709 k7115 k9710 (by decide)) ⟨(tC_out (tC_done hX56_0 (fun _ => Nat.le_antisymm (cn_le hX56_1) (cn_le (by have q1 := (leI c9708); rw [k10] at q1; exact q1)))) (ti_add (Y := -1) ex9709 k7115 (rg_lit (n := -1) (by decide)) (by decide) rfl (by decide))), (by have q1 := hX13_1; have q2 := (ti_add (Y := -1) ex9709 k7115 (rg_lit (n := -1) (by decide)) (by decide) rfl (by decide)); omega), (by have q1 := k7115; have q2 := (ti_add (Y := -1) ex9709 k7115 (rg_lit (n := -1) (by decide)) (by decide) rfl (by decide)); unfold Rg at q1; omega), (rg_w k9710 (by decide)), hg9702_0, hP.sub (ws' := [(aC, .inl (cI, 4096, .inl g9702)), (h, oX11 th aw ai ab ac hi re aP ta po en be de fa a5 sp av an ak x1 aW aC ag aT aN aF), (aw, .inl (cI, 2179, .inl fw)), (av, .inl (cI, 400, .inl g9703)), (an, .inl (cI, 10, .inl g3)), (ak, .inl (cI, 10, .inl g4))]) [0, 1, 2, 3, 4, 5] rfl, hD.sub (ws' := [(aC, .inl (cI, 4096, .inl g9702)), (h, oX11 th aw ai ab ac hi re aP ta po en be de fa a5 sp av an ak x1 aW aC ag aT aN aF), (aw, .inl (cI, 2179, .inl fw)), (av, .inl (cI, 400, .inl g9703)), (an, .inl (cI, 10, .inl g3)), (ak, .inl (cI, 10, .inl g4))]) [0, 1, 2, 3, 4, 5] (by decide) rfl, hS, lv_sub (l' := [(1, .int x9709), (0, .ref h)]) hl [0, 3] rfl⟩
        · skip
          have k9711 : Rg y9701 0 11 := rg_l1 (nleI c9708) hy9701 k11 (by decide)
          have k9712 : Rg r9 1 12 := rg_l2 (nleI c9708) hy9701 k11 (by decide)
          refine lv_iload_n hx hb dX11_leastCost_64 rfl (lv_at hl 1 rfl) ?_
          refine lv_aload_n hx hb dX11_leastCost_65 rfl (lv_at hl 3 rfl) ?_
          refine va_get (D := D) (ci := 10) (v := .int x1) (C := RX11) (T := TX11) (N := 26) hx hb hts iG_X11 hown hK hP 1 rfl rfl 19 (by decide) (hts _ w40_7) (fun _ h9 => h9) rfl dX11_leastCost_66 ?_
          refine lv_icmp_ge (tgt := 136) hx hb dX11_leastCost_69 (by decide) (fun c9713 => ?_) (fun c9713 => ?_)
          · skip
            obtain ⟨x9714, ex9714⟩ : ∃ y : Int32, y = y7107 + (-1) := ⟨_, rfl⟩
            refine lv_iinc (v := x9714) (lv' := [(1, .int x9714), (3, .int y9701), (2, .int r7116), (0, .ref h)]) hx hb dX11_leastCost_136 hl (k := 2) rfl (by rw [ex9714]; rfl) (by decide) rfl (fun ls hl => ?_)
            have k9715 : Rg x9714 (-1) 4094 := rg_add ex9714 k7115 (rg_lit (n := -1) (by decide)) (by decide)
            refine lv_goto (tgt := 13) hx hb dX11_leastCost_139 (by decide) ?_
            exact ih7110 (x9714, g9702, g9703) _ _ _ (by show ((x9714).toInt - (-1)).toNat < ((y7107).toInt - (-1)).toNat; exact mu_dn ex9714 k7115 k9715 (by decide)) ⟨(tC_out (tC_done hX56_0 (fun q => absurd q (Nat.not_lt.mpr (cn_le (leI c9713))))) (ti_add (Y := -1) ex9714 k7115 (rg_lit (n := -1) (by decide)) (by decide) rfl (by decide))), (by have q1 := hX13_1; have q2 := (ti_add (Y := -1) ex9714 k7115 (rg_lit (n := -1) (by decide)) (by decide) rfl (by decide)); omega), (by have q1 := k7115; have q2 := (ti_add (Y := -1) ex9714 k7115 (rg_lit (n := -1) (by decide)) (by decide) rfl (by decide)); unfold Rg at q1; omega), (rg_w k9715 (by decide)), hg9702_0, hP.sub (ws' := [(aC, .inl (cI, 4096, .inl g9702)), (h, oX11 th aw ai ab ac hi re aP ta po en be de fa a5 sp av an ak x1 aW aC ag aT aN aF), (aw, .inl (cI, 2179, .inl fw)), (av, .inl (cI, 400, .inl g9703)), (an, .inl (cI, 10, .inl g3)), (ak, .inl (cI, 10, .inl g4))]) [0, 1, 2, 3, 4, 5] rfl, hD.sub (ws' := [(aC, .inl (cI, 4096, .inl g9702)), (h, oX11 th aw ai ab ac hi re aP ta po en be de fa a5 sp av an ak x1 aW aC ag aT aN aF), (aw, .inl (cI, 2179, .inl fw)), (av, .inl (cI, 400, .inl g9703)), (an, .inl (cI, 10, .inl g3)), (ak, .inl (cI, 10, .inl g4))]) [0, 1, 2, 3, 4, 5] (by decide) rfl, hS, lv_sub (l' := [(1, .int x9714), (0, .ref h)]) hl [0, 3] rfl⟩
          · skip
            have k9716 : Rg r7116 0 9 := rg_l1 (nleI c9713) k8875 k5 (by decide)
            have k9717 : Rg x1 1 10 := rg_l2 (nleI c9713) k8875 k5 (by decide)
            refine lv_aload_n hx hb dX11_leastCost_72 rfl (lv_at hl 3 rfl) ?_
            refine va_get (D := D) (ci := 10) (v := .ref ak) (C := RX11) (T := TX11) (N := 26) hx hb hts iG_X11 hown hK hP 1 rfl rfl 18 (by decide) (hts _ w5_13) (fun _ h9 => h9) rfl dX11_leastCost_73 ?_
            refine lv_iload_n hx hb dX11_leastCost_76 rfl (lv_at hl 1 rfl) ?_
            refine va_iald hx hb hK hP 5 0 rfl rfl (rg_in k9716 (by decide)) dX11_leastCost_77 ?_
            refine lv_topi (fun x9718 ex9718 => ?_)
            have k9719 : Rg x9718 0 4095 := wK_rd k7 ex9718
            refine lv_iload_n hx hb dX11_leastCost_78 rfl (lv_at hl 0 rfl) ?_
            refine kpurei (wc := []) hP hD hS hA [] rfl (by decide) (fun hPc hDc hFc => va_runS (As := [.int x9718, .int y9701]) (rest := []) ⟨hx, hb, hml, hown, hts⟩ (r_hasx l D cI cJ cB cC x9718 y9701 H.size) (va_cwS 2 hts gX11_leastCost_X11_has rfl rfl rfl hdX11_has ⟨Nat.le_of_ble_eq_true rfl, Nat.le_of_ble_eq_true rfl⟩) ⟨kBlind, fun U hU hW => ⟨rfl, by rw [hU], hN.warm hW, hE.pass hS hFc hW hU, by rw [hU]; exact hPc, va_K.moved hW.alike hK, hDc⟩⟩ rfl rfl hl.1 rfl (lv_room (Nat.le_of_ble_eq_true rfl)) dX11_leastCost_79 ⟨Nat.le_of_ble_eq_true rfl, Nat.le_of_ble_eq_true rfl⟩) (fun r9720 u H locs hw hP hS => ?_)
            obtain ⟨k9721, k9722⟩ := hw
            refine lv_if_eq (tgt := 130) hx hb dX11_leastCost_82 (by decide) (fun c9752 => ?_) (fun c9752 => ?_)
            · skip
              have k9753 : Rg r9720 0 0 := rg_q1 (eqI c9752) k9722 (rg_lit (n := 0) (by decide)) (by decide)
              obtain ⟨x9754, ex9754⟩ : ∃ y : Int32, y = y9701 + 1 := ⟨_, rfl⟩
              refine lv_iinc (v := x9754) (lv' := [(3, .int x9754), (2, .int r7116), (1, .int y7107), (0, .ref h)]) hx hb dX11_leastCost_130 hl (k := 0) rfl (by rw [ex9754]; rfl) (by decide) rfl (fun ls hl => ?_)
              have k9755 : Rg x9754 1 12 := rg_add ex9754 k9711 (rg_lit (n := 1) (by decide)) (by decide)
              refine lv_goto (tgt := 56) hx hb dX11_leastCost_133 (by decide) ?_
              exact ih9704 (x9754, g9702, g9703) _ _ _ (by show (12 - (x9754).toInt).toNat < (12 - (y9701).toInt).toNat; exact mu_up ex9754 k9711 k9755 (by decide)) ⟨(by rw [(s1_cN (by have q1 := k9711; unfold Rg at q1; omega) (ti_add (Y := 1) ex9754 k9711 (rg_lit (n := 1) (by decide)) (by decide) rfl (by decide)))]; exact inC_skip hX56_0 (nelig1 ex9718 (cl_of (k := cN r7116) k9716 (by decide) (by simp only [cN]; have q1 := k9716; unfold Rg at q1; omega)) k9721 k9719 (rg_w k9711 (by decide)) (Int32.toInt_inj.mp (eqI c9752)))), (by have q1 := (by have q1 := (nleI c9708); rw [k10] at q1; exact q1); have q2 := (ti_add (Y := 1) ex9754 k9711 (rg_lit (n := 1) (by decide)) (by decide) rfl (by decide)); omega), (rg_w k9755 (by decide)), hg9702_0, hP.sub (ws' := [(aC, .inl (cI, 4096, .inl g9702)), (h, oX11 th aw ai ab ac hi re aP ta po en be de fa a5 sp av an ak x1 aW aC ag aT aN aF), (aw, .inl (cI, 2179, .inl fw)), (av, .inl (cI, 400, .inl g9703)), (an, .inl (cI, 10, .inl g3)), (ak, .inl (cI, 10, .inl g4))]) [0, 1, 2, 3, 4, 5] rfl, hD.sub (ws' := [(aC, .inl (cI, 4096, .inl g9702)), (h, oX11 th aw ai ab ac hi re aP ta po en be de fa a5 sp av an ak x1 aW aC ag aT aN aF), (aw, .inl (cI, 2179, .inl fw)), (av, .inl (cI, 400, .inl g9703)), (an, .inl (cI, 10, .inl g3)), (ak, .inl (cI, 10, .inl g4))]) [0, 1, 2, 3, 4, 5] (by decide) rfl, hS, lv_sub (l' := [(3, .int x9754), (2, .int r7116), (1, .int y7107), (0, .ref h)]) hl [0, 1, 2, 3] rfl⟩
            · skip
              have k9756 : Rg r9720 1 1 := rg_n1 (neI c9752) k9722 (rg_lit (n := 0) (by decide)) (by decide)
              refine lv_iload_n hx hb dX11_leastCost_85 rfl (lv_at hl 2 rfl) ?_
              refine lv_iload_n hx hb dX11_leastCost_86 rfl (lv_at hl 0 rfl) ?_
              refine kpurei (wc := []) hP hD hS hA [] rfl (by decide) (fun hPc hDc hFc => va_runS (As := [.int y7107, .int y9701]) (rest := []) ⟨hx, hb, hml, hown, hts⟩ (r_hasx l D cI cJ cB cC y7107 y9701 H.size) (va_cwS 2 hts gX11_leastCost_X11_has rfl rfl rfl hdX11_has ⟨Nat.le_of_ble_eq_true rfl, Nat.le_of_ble_eq_true rfl⟩) ⟨kBlind, fun U hU hW => ⟨rfl, by rw [hU], hN.warm hW, hE.pass hS hFc hW hU, by rw [hU]; exact hPc, va_K.moved hW.alike hK, hDc⟩⟩ rfl rfl hl.1 rfl (lv_room (Nat.le_of_ble_eq_true rfl)) dX11_leastCost_87 ⟨Nat.le_of_ble_eq_true rfl, Nat.le_of_ble_eq_true rfl⟩) (fun r9757 u H locs hw hP hS => ?_)
              obtain ⟨k9758, k9759⟩ := hw
              refine lv_if_ne (tgt := 130) hx hb dX11_leastCost_90 (by decide) (fun c9760 => ?_) (fun c9760 => ?_)
              · skip
                have k9761 : Rg r9757 1 1 := rg_n1 (neI c9760) k9759 (rg_lit (n := 0) (by decide)) (by decide)
                obtain ⟨x9762, ex9762⟩ : ∃ y : Int32, y = y9701 + 1 := ⟨_, rfl⟩
                refine lv_iinc (v := x9762) (lv' := [(3, .int x9762), (2, .int r7116), (1, .int y7107), (0, .ref h)]) hx hb dX11_leastCost_130 hl (k := 0) rfl (by rw [ex9762]; rfl) (by decide) rfl (fun ls hl => ?_)
                have k9763 : Rg x9762 1 12 := rg_add ex9762 k9711 (rg_lit (n := 1) (by decide)) (by decide)
                refine lv_goto (tgt := 56) hx hb dX11_leastCost_133 (by decide) ?_
                exact ih9704 (x9762, g9702, g9703) _ _ _ (by show (12 - (x9762).toInt).toNat < (12 - (y9701).toInt).toNat; exact mu_up ex9762 k9711 k9763 (by decide)) ⟨(by rw [(s1_cN (by have q1 := k9711; unfold Rg at q1; omega) (ti_add (Y := 1) ex9762 k9711 (rg_lit (n := 1) (by decide)) (by decide) rfl (by decide)))]; exact inC_skip hX56_0 (nelig2 k9758 k7115 (rg_w k9711 (by decide)) c9760)), (by have q1 := (by have q1 := (nleI c9708); rw [k10] at q1; exact q1); have q2 := (ti_add (Y := 1) ex9762 k9711 (rg_lit (n := 1) (by decide)) (by decide) rfl (by decide)); omega), (rg_w k9763 (by decide)), hg9702_0, hP.sub (ws' := [(aC, .inl (cI, 4096, .inl g9702)), (h, oX11 th aw ai ab ac hi re aP ta po en be de fa a5 sp av an ak x1 aW aC ag aT aN aF), (aw, .inl (cI, 2179, .inl fw)), (av, .inl (cI, 400, .inl g9703)), (an, .inl (cI, 10, .inl g3)), (ak, .inl (cI, 10, .inl g4))]) [0, 1, 2, 3, 4, 5] rfl, hD.sub (ws' := [(aC, .inl (cI, 4096, .inl g9702)), (h, oX11 th aw ai ab ac hi re aP ta po en be de fa a5 sp av an ak x1 aW aC ag aT aN aF), (aw, .inl (cI, 2179, .inl fw)), (av, .inl (cI, 400, .inl g9703)), (an, .inl (cI, 10, .inl g3)), (ak, .inl (cI, 10, .inl g4))]) [0, 1, 2, 3, 4, 5] (by decide) rfl, hS, lv_sub (l' := [(3, .int x9762), (2, .int r7116), (1, .int y7107), (0, .ref h)]) hl [0, 1, 2, 3] rfl⟩
              · skip
                have k9764 : Rg r9757 0 0 := rg_q1 (eqI c9760) k9759 (rg_lit (n := 0) (by decide)) (by decide)
                refine lv_aload_n hx hb dX11_leastCost_93 rfl (lv_at hl 3 rfl) ?_
                refine va_get (D := D) (ci := 10) (v := .ref aC) (C := RX11) (T := TX11) (N := 26) hx hb hts iG_X11 hown hK hP 1 rfl rfl 21 (by decide) (hts _ w5_15) (fun _ h9 => h9) rfl dX11_leastCost_94 ?_
                refine lv_iload_n hx hb dX11_leastCost_97 rfl (lv_at hl 2 rfl) ?_
                refine lv_aload_n hx hb dX11_leastCost_98 rfl (lv_at hl 3 rfl) ?_
                refine va_get (D := D) (ci := 10) (v := .ref aC) (C := RX11) (T := TX11) (N := 26) hx hb hts iG_X11 hown hK hP 1 rfl rfl 21 (by decide) (hts _ w5_15) (fun _ h9 => h9) rfl dX11_leastCost_99 ?_
                refine lv_iload_n hx hb dX11_leastCost_102 rfl (lv_at hl 2 rfl) ?_
                refine va_iald hx hb hK hP 0 0 rfl rfl (rg_in k7115 (by decide)) dX11_leastCost_103 ?_
                refine lv_topi (fun x9765 ex9765 => ?_)
                have k9766 : Rg x9765 0 1000000 := wF_rd hg9702_0 ex9765
                refine lv_aload_n hx hb dX11_leastCost_104 rfl (lv_at hl 3 rfl) ?_
                refine lv_aload_n hx hb dX11_leastCost_105 rfl (lv_at hl 3 rfl) ?_
                refine va_get (D := D) (ci := 10) (v := .ref an) (C := RX11) (T := TX11) (N := 26) hx hb hts iG_X11 hown hK hP 1 rfl rfl 17 (by decide) (hts _ w5_12) (fun _ h9 => h9) rfl dX11_leastCost_106 ?_
                refine lv_iload_n hx hb dX11_leastCost_109 rfl (lv_at hl 1 rfl) ?_
                refine va_iald hx hb hK hP 4 0 rfl rfl (rg_in k9716 (by decide)) dX11_leastCost_110 ?_
                refine lv_topi (fun x9767 ex9767 => ?_)
                have k9768 : Rg x9767 0 9 := wN_rd k6 ex9767
                refine lv_iload_n hx hb dX11_leastCost_111 rfl (lv_at hl 0 rfl) ?_
                refine kcalli (wc := [(h, oX11 th aw ai ab ac hi re aP ta po en be de fa a5 sp av an ak x1 aW aC ag aT aN aF), (aw, .inl (cI, 2179, .inl fw)), (av, .inl (cI, 400, .inl g9703))]) (wr := [(aC, .inl (cI, 4096, .inl g9702)), (an, .inl (cI, 10, .inl g3)), (ak, .inl (cI, 10, .inl g4))]) hP hD hS hA [1, 2, 3] [0, 4, 5] rfl rfl (by decide) (by decide) (by decide) (fun hPc hDc hFc => va_runV (As := [.int x9767, .int y9701]) (rest := [.int x9765, .int y7107, .ref aC]) ⟨hx, hb, hml, hown, hts⟩ (r_costOfx l D cI cJ cB cC h th aw ai ab ac hi re aP ta po en be de fa a5 sp av an ak x1 aW aC ag aT aN aF fw g9703 x9767 y9701 H.size k9768 k9711 H_fw_W H_fw_L) (cwV 2 hts gX11_leastCost_X11_costOf rfl rfl rfl ⟨rfl, hdX11_costOf⟩ ⟨Nat.le_of_ble_eq_true rfl, Nat.le_of_ble_eq_true rfl⟩) ⟨kBlind, va_recv hK hPc (ci := 10) (q0 := 0) rfl rfl, fun U hU hW => ⟨rfl, by rw [hU], hN.warm hW, hE.pass hS hFc hW hU, by rw [hU]; exact hPc, va_K.moved hW.alike hK, hDc⟩⟩ rfl rfl hl.1 rfl (lv_room (Nat.le_of_ble_eq_true rfl)) dX11_leastCost_112 ⟨Nat.le_of_ble_eq_true rfl, Nat.le_of_ble_eq_true rfl⟩) (fun r9769 u H locs hw hP hD hS => ?_)
                obtain ⟨g9770, rfl⟩ : ∃ z, z = u := ⟨_, rfl⟩
                have hP : va_P D vwCl [(aC, .inl (cI, 4096, .inl g9702)), (an, .inl (cI, 10, .inl g3)), (ak, .inl (cI, 10, .inl g4)), (h, oX11 th aw ai ab ac hi re aP ta po en be de fa a5 sp av an ak x1 aW aC ag aT aN aF), (aw, .inl (cI, 2179, .inl fw)), (av, .inl (cI, 400, .inl g9770))] H := hP
                have hD : va_D A [(aC, .inl (cI, 4096, .inl g9702)), (an, .inl (cI, 10, .inl g3)), (ak, .inl (cI, 10, .inl g4)), (h, oX11 th aw ai ab ac hi re aP ta po en be de fa a5 sp av an ak x1 aW aC ag aT aN aF), (aw, .inl (cI, 2179, .inl fw)), (av, .inl (cI, 400, .inl g9770))] := hD
                obtain ⟨k9771, k9772⟩ := hw
                refine lv_aload_n hx hb dX11_leastCost_115 rfl (lv_at hl 3 rfl) ?_
                refine va_get (D := D) (ci := 10) (v := .ref aC) (C := RX11) (T := TX11) (N := 26) hx hb hts iG_X11 hown hK hP 3 rfl rfl 21 (by decide) (hts _ w5_15) (fun _ h9 => h9) rfl dX11_leastCost_116 ?_
                refine lv_iload_n hx hb dX11_leastCost_119 rfl (lv_at hl 2 rfl) ?_
                refine lv_iconst (v := 1) hx hb dX11_leastCost_120 (by decide) ?_
                refine lv_iload_n hx hb dX11_leastCost_121 rfl (lv_at hl 0 rfl) ?_
                refine lv_ishl hx hb dX11_leastCost_122 ?_
                refine lv_topi (fun x9773 ex9773 => ?_)
                have k9774 : Rg x9773 1 2048 := rg_shl1 11 ex9773 k9711 (by decide)
                refine lv_ior hx hb dX11_leastCost_123 ?_
                refine lv_topi (fun x9775 ex9775 => ?_)
                have k9776 : Rg x9775 0 4095 := rg_or 12 ex9775 k7115 k9774 (by decide)
                refine va_iald hx hb hK hP 0 0 rfl rfl (rg_in k9776 (by decide)) dX11_leastCost_124 ?_
                refine lv_topi (fun x9777 ex9777 => ?_)
                have k9778 : Rg x9777 0 1000000 := wF_rd hg9702_0 ex9777
                refine lv_iadd hx hb dX11_leastCost_125 ?_
                refine lv_topi (fun x9779 ex9779 => ?_)
                have tx9779 : x9779.toInt = r9769.toInt + x9777.toInt := ti_add ex9779 k9772 k9778 (by decide) rfl rfl
                have k9780 : Rg x9779 0 1011988 := rg_add ex9779 k9772 k9778 (by decide)
                refine va_mmin hx hb (by rw [hml]; exact hl.1.symm) hown (hts _ w34_13) (hts _ w24_21) (hts _ w8_7) (hts _ w24_22) (Nat.le_of_ble_eq_true rfl) (Nat.le_of_ble_eq_true rfl) (Nat.le_of_ble_eq_true rfl) (Nat.le_of_ble_eq_true rfl) dX11_leastCost_126 ?_
                refine lv_topi (fun x9781 ex9781 => ?_)
                have k9782 : Rg x9781 0 1000000 := rg_min ex9781 k9766 k9780 (by decide)
                refine va_iast hx hb hK hP hD hS 0 0 rfl rfl (rg_in k7115 (by decide)) dX11_leastCost_129 (fun H locs hP hD hS => ?_)
                have hP : va_P D vwCl [(aC, .inl (cI, 4096, .inl (upd g9702 y7107.toNatClampNeg x9781))), (an, .inl (cI, 10, .inl g3)), (ak, .inl (cI, 10, .inl g4)), (h, oX11 th aw ai ab ac hi re aP ta po en be de fa a5 sp av an ak x1 aW aC ag aT aN aF), (aw, .inl (cI, 2179, .inl fw)), (av, .inl (cI, 400, .inl g9770))] H := hP
                have hD : va_D A [(aC, .inl (cI, 4096, .inl (upd g9702 y7107.toNatClampNeg x9781))), (an, .inl (cI, 10, .inl g3)), (ak, .inl (cI, 10, .inl g4)), (h, oX11 th aw ai ab ac hi re aP ta po en be de fa a5 sp av an ak x1 aW aC ag aT aN aF), (aw, .inl (cI, 2179, .inl fw)), (av, .inl (cI, 400, .inl g9770))] := hD
                have k9784 : wF (upd g9702 y7107.toNatClampNeg x9781) := wF_upd hg9702_0 k9782
                generalize hg9783 : (upd g9702 y7107.toNatClampNeg x9781) = g9783 at hP hD k9784
                obtain ⟨x9785, ex9785⟩ : ∃ y : Int32, y = y9701 + 1 := ⟨_, rfl⟩
                refine lv_iinc (v := x9785) (lv' := [(3, .int x9785), (2, .int r7116), (1, .int y7107), (0, .ref h)]) hx hb dX11_leastCost_130 hl (k := 0) rfl (by rw [ex9785]; rfl) (by decide) rfl (fun ls hl => ?_)
                have k9786 : Rg x9785 1 12 := rg_add ex9785 k9711 (rg_lit (n := 1) (by decide)) (by decide)
                refine lv_goto (tgt := 56) hx hb dX11_leastCost_133 (by decide) ?_
                exact ih9704 (x9785, g9783, g9770) _ _ _ (by show (12 - (x9785).toInt).toNat < (12 - (y9701).toInt).toNat; exact mu_up ex9785 k9711 k9786 (by decide)) ⟨(by rw [(s1_cN (by have q1 := k9711; unfold Rg at q1; omega) (ti_add (Y := 1) ex9785 k9711 (rg_lit (n := 1) (by decide)) (by decide) rfl (by decide)))]; exact inC_go hX56_0 (cn_lt2 (nleI c9713) (by have q1 := k9716; unfold Rg at q1; omega)) (elig_of ex9718 (cl_of (k := cN r7116) k9716 (by decide) (by simp only [cN]; have q1 := k9716; unfold Rg at q1; omega)) k9721 k9719 (rg_w k9711 (by decide)) c9752 k9758 k7115 (Int32.toInt_inj.mp (eqI c9760))) (by rw [ex9765, (cl_of (k := cN y7107) k7115 (by decide) (by simp only [cN]; have q1 := k7115; unfold Rg at q1; omega))]) (by rw [ex9777, (cl_of (k := cN x9775) k9776 (by decide) (by simp only [cN]; have q1 := k9776; unfold Rg at q1; omega)), (or_bit ex9773 ex9775 k7115 (rg_w k9711 (by decide))).1]) k9771 (by rw [ex9767, (cl_of (k := cN r7116) k9716 (by decide) (by simp only [cN]; have q1 := k9716; unfold Rg at q1; omega))]) (nI_cN (rg_w k9711 (by decide) : Rg y9701 0 4095)) tx9779 ex9781 (by rw [← (cl_of (k := cN y7107) k7115 (by decide) (by simp only [cN]; have q1 := k7115; unfold Rg at q1; omega))]; exact hg9783)), (by have q1 := (by have q1 := (nleI c9708); rw [k10] at q1; exact q1); have q2 := (ti_add (Y := 1) ex9785 k9711 (rg_lit (n := 1) (by decide)) (by decide) rfl (by decide)); omega), (rg_w k9786 (by decide)), k9784, hP.sub (ws' := [(aC, .inl (cI, 4096, .inl g9783)), (h, oX11 th aw ai ab ac hi re aP ta po en be de fa a5 sp av an ak x1 aW aC ag aT aN aF), (aw, .inl (cI, 2179, .inl fw)), (av, .inl (cI, 400, .inl g9770)), (an, .inl (cI, 10, .inl g3)), (ak, .inl (cI, 10, .inl g4))]) [0, 3, 4, 5, 1, 2] rfl, hD.sub (ws' := [(aC, .inl (cI, 4096, .inl g9783)), (h, oX11 th aw ai ab ac hi re aP ta po en be de fa a5 sp av an ak x1 aW aC ag aT aN aF), (aw, .inl (cI, 2179, .inl fw)), (av, .inl (cI, 400, .inl g9770)), (an, .inl (cI, 10, .inl g3)), (ak, .inl (cI, 10, .inl g4))]) [0, 3, 4, 5, 1, 2] (by decide) rfl, hS, lv_sub (l' := [(3, .int x9785), (2, .int r7116), (1, .int y7107), (0, .ref h)]) hl [0, 1, 2, 3] rfl⟩
      · skip
        refine lv_iconst (v := 0) hx hb dX11_leastCost_46 (by decide) ?_
        refine lv_goto (tgt := 53) hx hb dX11_leastCost_47 (by decide) ?_
        refine va_iast hx hb hK hP hD hS 0 0 rfl rfl (rg_in k7115 (by decide)) dX11_leastCost_53 (fun H locs hP hD hS => ?_)
        have hP : va_P D vwCl [(aC, .inl (cI, 4096, .inl (upd g7108 y7107.toNatClampNeg 0))), (h, oX11 th aw ai ab ac hi re aP ta po en be de fa a5 sp av an ak x1 aW aC ag aT aN aF), (aw, .inl (cI, 2179, .inl fw)), (av, .inl (cI, 400, .inl g7109)), (an, .inl (cI, 10, .inl g3)), (ak, .inl (cI, 10, .inl g4))] H := hP
        have hD : va_D A [(aC, .inl (cI, 4096, .inl (upd g7108 y7107.toNatClampNeg 0))), (h, oX11 th aw ai ab ac hi re aP ta po en be de fa a5 sp av an ak x1 aW aC ag aT aN aF), (aw, .inl (cI, 2179, .inl fw)), (av, .inl (cI, 400, .inl g7109)), (an, .inl (cI, 10, .inl g3)), (ak, .inl (cI, 10, .inl g4))] := hD
        have k9788 : wF (upd g7108 y7107.toNatClampNeg 0) := wF_upd hg7108_0 (rg_w (rg_lit (n := 0) (by decide)) (by decide))
        generalize hg9787 : (upd g7108 y7107.toNatClampNeg 0) = g9787 at hP hD k9788
        refine lv_iconst (v := 0) hx hb dX11_leastCost_54 (by decide) ?_
        refine lv_istore_n (lv' := [(3, .int 0), (2, .int r7116), (1, .int y7107), (0, .ref h)]) hx hb dX11_leastCost_55 rfl hl (by decide) rfl (fun ls hl => ?_)
        refine k_loop (hd := 56) (fun (u : Int32 × (Nat → Int32) × (Nat → Int32)) => match u with | (y10610, g10611, g10612) => (12 - (y10610).toInt).toNat) (fun (u : Int32 × (Nat → Int32) × (Nat → Int32)) (H : Heap) (locs : List Loc) (ls : Array Slot) => match u with | (y10610, g10611, g10612) => (inC g10611 (fun k9 s9 => (cF fw (g3 k9) (nI s9)).toInt) g4 (cN x1) (cN (fw 1)) (cN y7107) (cN r7116) (cN y10610)) ∧ ((y10610 : Int32).toInt ≤ (fw 1).toInt) ∧ Rg y10610 0 12 ∧ wF g10611 ∧ va_P D vwCl [(aC, .inl (cI, 4096, .inl g10611)), (h, oX11 th aw ai ab ac hi re aP ta po en be de fa a5 sp av an ak x1 aW aC ag aT aN aF), (aw, .inl (cI, 2179, .inl fw)), (av, .inl (cI, 400, .inl g10612)), (an, .inl (cI, 10, .inl g3)), (ak, .inl (cI, 10, .inl g4))] H ∧ va_D A [(aC, .inl (cI, 4096, .inl g10611)), (h, oX11 th aw ai ab ac hi re aP ta po en be de fa a5 sp av an ak x1 aW aC ag aT aN aF), (aw, .inl (cI, 2179, .inl fw)), (av, .inl (cI, 400, .inl g10612)), (an, .inl (cI, 10, .inl g3)), (ak, .inl (cI, 10, .inl g4))] ∧ va_S A s.heap H locs ∧ lv_has ls 4 [(3, .int y10610), (2, .int r7116), (1, .int y7107), (0, .ref h)]) ((0 : Int32), g9787, g7109) ⟨(by have q0 : cN (0 : Int32) = 0 := (by decide); rw [q0]; exact inC_new (tC_in hX13_0 (by have q1 := k7115; unfold Rg at q1; omega)) (by rw [← (cl_of (k := cN y7107) k7115 (by decide) (by simp only [cN]; have q1 := k7115; unfold Rg at q1; omega))]; exact hg9787) (kc_pop k7117 k7115) (cn_le (leI c8874)) (cn_lt hX13_1 (by have q1 := k7115; unfold Rg at q1; omega)) (Or.inl ⟨cn_eq (eqI c8877), rfl⟩)), (by rw [← k10]; have q1 := k11; unfold Rg at q1; have q2 : (0 : Int32).toInt = 0 := (by decide); omega), (rg_w (rg_lit (n := 0) (by decide)) (by decide)), k9788, hP.sub (ws' := [(aC, .inl (cI, 4096, .inl g9787)), (h, oX11 th aw ai ab ac hi re aP ta po en be de fa a5 sp av an ak x1 aW aC ag aT aN aF), (aw, .inl (cI, 2179, .inl fw)), (av, .inl (cI, 400, .inl g7109)), (an, .inl (cI, 10, .inl g3)), (ak, .inl (cI, 10, .inl g4))]) [0, 1, 2, 3, 4, 5] rfl, hD.sub (ws' := [(aC, .inl (cI, 4096, .inl g9787)), (h, oX11 th aw ai ab ac hi re aP ta po en be de fa a5 sp av an ak x1 aW aC ag aT aN aF), (aw, .inl (cI, 2179, .inl fw)), (av, .inl (cI, 400, .inl g7109)), (an, .inl (cI, 10, .inl g3)), (ak, .inl (cI, 10, .inl g4))]) [0, 1, 2, 3, 4, 5] (by decide) rfl, hS, lv_sub (l' := [(3, .int 0), (2, .int r7116), (1, .int y7107), (0, .ref h)]) hl [0, 1, 2, 3] rfl⟩ (fun u H locs ls hI ih10613 => ?_)
        clear hP hD hS hl
        obtain ⟨y10610, g10611, g10612⟩ := u
        obtain ⟨hX56_0, hX56_1, hy10610, hg10611_0, hP, hD, hS, hl⟩ := hI
        have hP : va_P D vwCl [(aC, .inl (cI, 4096, .inl g10611)), (h, oX11 th aw ai ab ac hi re aP ta po en be de fa a5 sp av an ak x1 aW aC ag aT aN aF), (aw, .inl (cI, 2179, .inl fw)), (av, .inl (cI, 400, .inl g10612)), (an, .inl (cI, 10, .inl g3)), (ak, .inl (cI, 10, .inl g4))] H := hP
        have hD : va_D A [(aC, .inl (cI, 4096, .inl g10611)), (h, oX11 th aw ai ab ac hi re aP ta po en be de fa a5 sp av an ak x1 aW aC ag aT aN aF), (aw, .inl (cI, 2179, .inl fw)), (av, .inl (cI, 400, .inl g10612)), (an, .inl (cI, 10, .inl g3)), (ak, .inl (cI, 10, .inl g4))] := hD
        have hl : lv_has ls 4 [(3, .int y10610), (2, .int r7116), (1, .int y7107), (0, .ref h)] := hl
        refine lv_iload_n hx hb dX11_leastCost_56 rfl (lv_at hl 0 rfl) ?_
        refine lv_aload_n hx hb dX11_leastCost_57 rfl (lv_at hl 3 rfl) ?_
        refine kpurei (wc := [(h, oX11 th aw ai ab ac hi re aP ta po en be de fa a5 sp av an ak x1 aW aC ag aT aN aF), (aw, .inl (cI, 2179, .inl fw))]) hP hD hS hA [1, 2] rfl (by decide) (fun hPc hDc hFc => va_runV (As := []) (rest := [.int y10610]) ⟨hx, hb, hml, hown, hts⟩ (r_shirts l D cI cJ cB cC h th aw ai ab ac hi re aP ta po en be de fa a5 sp av an ak x1 aW aC ag aT aN aF fw H.size H_fw_W) (cwV 0 hts gX11_leastCost_X11_shirts rfl rfl rfl ⟨rfl, hdX11_shirts⟩ ⟨Nat.le_of_ble_eq_true rfl, Nat.le_of_ble_eq_true rfl⟩) ⟨kBlind, va_recv hK hPc (ci := 10) (q0 := 0) rfl rfl, fun U hU hW => ⟨rfl, by rw [hU], hN.warm hW, hE.pass hS hFc hW hU, by rw [hU]; exact hPc, va_K.moved hW.alike hK, hDc⟩⟩ rfl rfl hl.1 rfl (lv_room (Nat.le_of_ble_eq_true rfl)) dX11_leastCost_58 ⟨Nat.le_of_ble_eq_true rfl, Nat.le_of_ble_eq_true rfl⟩) (fun r10614 u H locs hw hP hS => ?_)
        obtain ⟨k10615, k10616⟩ := hw
        obtain rfl : r9 = r10614 := k10.trans k10615.symm
        refine lv_icmp_ge (tgt := 136) hx hb dX11_leastCost_61 (by decide) (fun c10617 => ?_) (fun c10617 => ?_)
        · skip
          obtain ⟨x10618, ex10618⟩ : ∃ y : Int32, y = y7107 + (-1) := ⟨_, rfl⟩
          refine lv_iinc (v := x10618) (lv' := [(1, .int x10618), (3, .int y10610), (2, .int r7116), (0, .ref h)]) hx hb dX11_leastCost_136 hl (k := 2) rfl (by rw [ex10618]; rfl) (by decide) rfl (fun ls hl => ?_)
          have k10619 : Rg x10618 (-1) 4094 := rg_add ex10618 k7115 (rg_lit (n := -1) (by decide)) (by decide)
          refine lv_goto (tgt := 13) hx hb dX11_leastCost_139 (by decide) ?_
          exact ih7110 (x10618, g10611, g10612) _ _ _ (by show ((x10618).toInt - (-1)).toNat < ((y7107).toInt - (-1)).toNat; exact mu_dn ex10618 k7115 k10619 (by decide)) ⟨(tC_out (tC_done hX56_0 (fun _ => Nat.le_antisymm (cn_le hX56_1) (cn_le (by have q1 := (leI c10617); rw [k10] at q1; exact q1)))) (ti_add (Y := -1) ex10618 k7115 (rg_lit (n := -1) (by decide)) (by decide) rfl (by decide))), (by have q1 := hX13_1; have q2 := (ti_add (Y := -1) ex10618 k7115 (rg_lit (n := -1) (by decide)) (by decide) rfl (by decide)); omega), (by have q1 := k7115; have q2 := (ti_add (Y := -1) ex10618 k7115 (rg_lit (n := -1) (by decide)) (by decide) rfl (by decide)); unfold Rg at q1; omega), (rg_w k10619 (by decide)), hg10611_0, hP.sub (ws' := [(aC, .inl (cI, 4096, .inl g10611)), (h, oX11 th aw ai ab ac hi re aP ta po en be de fa a5 sp av an ak x1 aW aC ag aT aN aF), (aw, .inl (cI, 2179, .inl fw)), (av, .inl (cI, 400, .inl g10612)), (an, .inl (cI, 10, .inl g3)), (ak, .inl (cI, 10, .inl g4))]) [0, 1, 2, 3, 4, 5] rfl, hD.sub (ws' := [(aC, .inl (cI, 4096, .inl g10611)), (h, oX11 th aw ai ab ac hi re aP ta po en be de fa a5 sp av an ak x1 aW aC ag aT aN aF), (aw, .inl (cI, 2179, .inl fw)), (av, .inl (cI, 400, .inl g10612)), (an, .inl (cI, 10, .inl g3)), (ak, .inl (cI, 10, .inl g4))]) [0, 1, 2, 3, 4, 5] (by decide) rfl, hS, lv_sub (l' := [(1, .int x10618), (0, .ref h)]) hl [0, 3] rfl⟩
        · skip
          have k10620 : Rg y10610 0 11 := rg_l1 (nleI c10617) hy10610 k11 (by decide)
          have k10621 : Rg r9 1 12 := rg_l2 (nleI c10617) hy10610 k11 (by decide)
          refine lv_iload_n hx hb dX11_leastCost_64 rfl (lv_at hl 1 rfl) ?_
          refine lv_aload_n hx hb dX11_leastCost_65 rfl (lv_at hl 3 rfl) ?_
          refine va_get (D := D) (ci := 10) (v := .int x1) (C := RX11) (T := TX11) (N := 26) hx hb hts iG_X11 hown hK hP 1 rfl rfl 19 (by decide) (hts _ w40_7) (fun _ h9 => h9) rfl dX11_leastCost_66 ?_
          refine lv_icmp_ge (tgt := 136) hx hb dX11_leastCost_69 (by decide) (fun c10622 => ?_) (fun c10622 => ?_)
          · skip
            obtain ⟨x10623, ex10623⟩ : ∃ y : Int32, y = y7107 + (-1) := ⟨_, rfl⟩
            refine lv_iinc (v := x10623) (lv' := [(1, .int x10623), (3, .int y10610), (2, .int r7116), (0, .ref h)]) hx hb dX11_leastCost_136 hl (k := 2) rfl (by rw [ex10623]; rfl) (by decide) rfl (fun ls hl => ?_)
            have k10624 : Rg x10623 (-1) 4094 := rg_add ex10623 k7115 (rg_lit (n := -1) (by decide)) (by decide)
            refine lv_goto (tgt := 13) hx hb dX11_leastCost_139 (by decide) ?_
            exact ih7110 (x10623, g10611, g10612) _ _ _ (by show ((x10623).toInt - (-1)).toNat < ((y7107).toInt - (-1)).toNat; exact mu_dn ex10623 k7115 k10624 (by decide)) ⟨(tC_out (tC_done hX56_0 (fun q => absurd q (Nat.not_lt.mpr (cn_le (leI c10622))))) (ti_add (Y := -1) ex10623 k7115 (rg_lit (n := -1) (by decide)) (by decide) rfl (by decide))), (by have q1 := hX13_1; have q2 := (ti_add (Y := -1) ex10623 k7115 (rg_lit (n := -1) (by decide)) (by decide) rfl (by decide)); omega), (by have q1 := k7115; have q2 := (ti_add (Y := -1) ex10623 k7115 (rg_lit (n := -1) (by decide)) (by decide) rfl (by decide)); unfold Rg at q1; omega), (rg_w k10624 (by decide)), hg10611_0, hP.sub (ws' := [(aC, .inl (cI, 4096, .inl g10611)), (h, oX11 th aw ai ab ac hi re aP ta po en be de fa a5 sp av an ak x1 aW aC ag aT aN aF), (aw, .inl (cI, 2179, .inl fw)), (av, .inl (cI, 400, .inl g10612)), (an, .inl (cI, 10, .inl g3)), (ak, .inl (cI, 10, .inl g4))]) [0, 1, 2, 3, 4, 5] rfl, hD.sub (ws' := [(aC, .inl (cI, 4096, .inl g10611)), (h, oX11 th aw ai ab ac hi re aP ta po en be de fa a5 sp av an ak x1 aW aC ag aT aN aF), (aw, .inl (cI, 2179, .inl fw)), (av, .inl (cI, 400, .inl g10612)), (an, .inl (cI, 10, .inl g3)), (ak, .inl (cI, 10, .inl g4))]) [0, 1, 2, 3, 4, 5] (by decide) rfl, hS, lv_sub (l' := [(1, .int x10623), (0, .ref h)]) hl [0, 3] rfl⟩
          · skip
            have k10625 : Rg r7116 0 9 := rg_l1 (nleI c10622) k8875 k5 (by decide)
            have k10626 : Rg x1 1 10 := rg_l2 (nleI c10622) k8875 k5 (by decide)
            refine lv_aload_n hx hb dX11_leastCost_72 rfl (lv_at hl 3 rfl) ?_
            refine va_get (D := D) (ci := 10) (v := .ref ak) (C := RX11) (T := TX11) (N := 26) hx hb hts iG_X11 hown hK hP 1 rfl rfl 18 (by decide) (hts _ w5_13) (fun _ h9 => h9) rfl dX11_leastCost_73 ?_
            refine lv_iload_n hx hb dX11_leastCost_76 rfl (lv_at hl 1 rfl) ?_
            refine va_iald hx hb hK hP 5 0 rfl rfl (rg_in k10625 (by decide)) dX11_leastCost_77 ?_
            refine lv_topi (fun x10627 ex10627 => ?_)
            have k10628 : Rg x10627 0 4095 := wK_rd k7 ex10627
            refine lv_iload_n hx hb dX11_leastCost_78 rfl (lv_at hl 0 rfl) ?_
            refine kpurei (wc := []) hP hD hS hA [] rfl (by decide) (fun hPc hDc hFc => va_runS (As := [.int x10627, .int y10610]) (rest := []) ⟨hx, hb, hml, hown, hts⟩ (r_hasx l D cI cJ cB cC x10627 y10610 H.size) (va_cwS 2 hts gX11_leastCost_X11_has rfl rfl rfl hdX11_has ⟨Nat.le_of_ble_eq_true rfl, Nat.le_of_ble_eq_true rfl⟩) ⟨kBlind, fun U hU hW => ⟨rfl, by rw [hU], hN.warm hW, hE.pass hS hFc hW hU, by rw [hU]; exact hPc, va_K.moved hW.alike hK, hDc⟩⟩ rfl rfl hl.1 rfl (lv_room (Nat.le_of_ble_eq_true rfl)) dX11_leastCost_79 ⟨Nat.le_of_ble_eq_true rfl, Nat.le_of_ble_eq_true rfl⟩) (fun r10629 u H locs hw hP hS => ?_)
            obtain ⟨k10630, k10631⟩ := hw
            refine lv_if_eq (tgt := 130) hx hb dX11_leastCost_82 (by decide) (fun c10661 => ?_) (fun c10661 => ?_)
            · skip
              have k10662 : Rg r10629 0 0 := rg_q1 (eqI c10661) k10631 (rg_lit (n := 0) (by decide)) (by decide)
              obtain ⟨x10663, ex10663⟩ : ∃ y : Int32, y = y10610 + 1 := ⟨_, rfl⟩
              refine lv_iinc (v := x10663) (lv' := [(3, .int x10663), (2, .int r7116), (1, .int y7107), (0, .ref h)]) hx hb dX11_leastCost_130 hl (k := 0) rfl (by rw [ex10663]; rfl) (by decide) rfl (fun ls hl => ?_)
              have k10664 : Rg x10663 1 12 := rg_add ex10663 k10620 (rg_lit (n := 1) (by decide)) (by decide)
              refine lv_goto (tgt := 56) hx hb dX11_leastCost_133 (by decide) ?_
              exact ih10613 (x10663, g10611, g10612) _ _ _ (by show (12 - (x10663).toInt).toNat < (12 - (y10610).toInt).toNat; exact mu_up ex10663 k10620 k10664 (by decide)) ⟨(by rw [(s1_cN (by have q1 := k10620; unfold Rg at q1; omega) (ti_add (Y := 1) ex10663 k10620 (rg_lit (n := 1) (by decide)) (by decide) rfl (by decide)))]; exact inC_skip hX56_0 (nelig1 ex10627 (cl_of (k := cN r7116) k10625 (by decide) (by simp only [cN]; have q1 := k10625; unfold Rg at q1; omega)) k10630 k10628 (rg_w k10620 (by decide)) (Int32.toInt_inj.mp (eqI c10661)))), (by have q1 := (by have q1 := (nleI c10617); rw [k10] at q1; exact q1); have q2 := (ti_add (Y := 1) ex10663 k10620 (rg_lit (n := 1) (by decide)) (by decide) rfl (by decide)); omega), (rg_w k10664 (by decide)), hg10611_0, hP.sub (ws' := [(aC, .inl (cI, 4096, .inl g10611)), (h, oX11 th aw ai ab ac hi re aP ta po en be de fa a5 sp av an ak x1 aW aC ag aT aN aF), (aw, .inl (cI, 2179, .inl fw)), (av, .inl (cI, 400, .inl g10612)), (an, .inl (cI, 10, .inl g3)), (ak, .inl (cI, 10, .inl g4))]) [0, 1, 2, 3, 4, 5] rfl, hD.sub (ws' := [(aC, .inl (cI, 4096, .inl g10611)), (h, oX11 th aw ai ab ac hi re aP ta po en be de fa a5 sp av an ak x1 aW aC ag aT aN aF), (aw, .inl (cI, 2179, .inl fw)), (av, .inl (cI, 400, .inl g10612)), (an, .inl (cI, 10, .inl g3)), (ak, .inl (cI, 10, .inl g4))]) [0, 1, 2, 3, 4, 5] (by decide) rfl, hS, lv_sub (l' := [(3, .int x10663), (2, .int r7116), (1, .int y7107), (0, .ref h)]) hl [0, 1, 2, 3] rfl⟩
            · skip
              have k10665 : Rg r10629 1 1 := rg_n1 (neI c10661) k10631 (rg_lit (n := 0) (by decide)) (by decide)
              refine lv_iload_n hx hb dX11_leastCost_85 rfl (lv_at hl 2 rfl) ?_
              refine lv_iload_n hx hb dX11_leastCost_86 rfl (lv_at hl 0 rfl) ?_
              refine kpurei (wc := []) hP hD hS hA [] rfl (by decide) (fun hPc hDc hFc => va_runS (As := [.int y7107, .int y10610]) (rest := []) ⟨hx, hb, hml, hown, hts⟩ (r_hasx l D cI cJ cB cC y7107 y10610 H.size) (va_cwS 2 hts gX11_leastCost_X11_has rfl rfl rfl hdX11_has ⟨Nat.le_of_ble_eq_true rfl, Nat.le_of_ble_eq_true rfl⟩) ⟨kBlind, fun U hU hW => ⟨rfl, by rw [hU], hN.warm hW, hE.pass hS hFc hW hU, by rw [hU]; exact hPc, va_K.moved hW.alike hK, hDc⟩⟩ rfl rfl hl.1 rfl (lv_room (Nat.le_of_ble_eq_true rfl)) dX11_leastCost_87 ⟨Nat.le_of_ble_eq_true rfl, Nat.le_of_ble_eq_true rfl⟩) (fun r10666 u H locs hw hP hS => ?_)
              obtain ⟨k10667, k10668⟩ := hw
              refine lv_if_ne (tgt := 130) hx hb dX11_leastCost_90 (by decide) (fun c10669 => ?_) (fun c10669 => ?_)
              · skip
                have k10670 : Rg r10666 1 1 := rg_n1 (neI c10669) k10668 (rg_lit (n := 0) (by decide)) (by decide)
                obtain ⟨x10671, ex10671⟩ : ∃ y : Int32, y = y10610 + 1 := ⟨_, rfl⟩
                refine lv_iinc (v := x10671) (lv' := [(3, .int x10671), (2, .int r7116), (1, .int y7107), (0, .ref h)]) hx hb dX11_leastCost_130 hl (k := 0) rfl (by rw [ex10671]; rfl) (by decide) rfl (fun ls hl => ?_)
                have k10672 : Rg x10671 1 12 := rg_add ex10671 k10620 (rg_lit (n := 1) (by decide)) (by decide)
                refine lv_goto (tgt := 56) hx hb dX11_leastCost_133 (by decide) ?_
                exact ih10613 (x10671, g10611, g10612) _ _ _ (by show (12 - (x10671).toInt).toNat < (12 - (y10610).toInt).toNat; exact mu_up ex10671 k10620 k10672 (by decide)) ⟨(by rw [(s1_cN (by have q1 := k10620; unfold Rg at q1; omega) (ti_add (Y := 1) ex10671 k10620 (rg_lit (n := 1) (by decide)) (by decide) rfl (by decide)))]; exact inC_skip hX56_0 (nelig2 k10667 k7115 (rg_w k10620 (by decide)) c10669)), (by have q1 := (by have q1 := (nleI c10617); rw [k10] at q1; exact q1); have q2 := (ti_add (Y := 1) ex10671 k10620 (rg_lit (n := 1) (by decide)) (by decide) rfl (by decide)); omega), (rg_w k10672 (by decide)), hg10611_0, hP.sub (ws' := [(aC, .inl (cI, 4096, .inl g10611)), (h, oX11 th aw ai ab ac hi re aP ta po en be de fa a5 sp av an ak x1 aW aC ag aT aN aF), (aw, .inl (cI, 2179, .inl fw)), (av, .inl (cI, 400, .inl g10612)), (an, .inl (cI, 10, .inl g3)), (ak, .inl (cI, 10, .inl g4))]) [0, 1, 2, 3, 4, 5] rfl, hD.sub (ws' := [(aC, .inl (cI, 4096, .inl g10611)), (h, oX11 th aw ai ab ac hi re aP ta po en be de fa a5 sp av an ak x1 aW aC ag aT aN aF), (aw, .inl (cI, 2179, .inl fw)), (av, .inl (cI, 400, .inl g10612)), (an, .inl (cI, 10, .inl g3)), (ak, .inl (cI, 10, .inl g4))]) [0, 1, 2, 3, 4, 5] (by decide) rfl, hS, lv_sub (l' := [(3, .int x10671), (2, .int r7116), (1, .int y7107), (0, .ref h)]) hl [0, 1, 2, 3] rfl⟩
              · skip
                have k10673 : Rg r10666 0 0 := rg_q1 (eqI c10669) k10668 (rg_lit (n := 0) (by decide)) (by decide)
                refine lv_aload_n hx hb dX11_leastCost_93 rfl (lv_at hl 3 rfl) ?_
                refine va_get (D := D) (ci := 10) (v := .ref aC) (C := RX11) (T := TX11) (N := 26) hx hb hts iG_X11 hown hK hP 1 rfl rfl 21 (by decide) (hts _ w5_15) (fun _ h9 => h9) rfl dX11_leastCost_94 ?_
                refine lv_iload_n hx hb dX11_leastCost_97 rfl (lv_at hl 2 rfl) ?_
                refine lv_aload_n hx hb dX11_leastCost_98 rfl (lv_at hl 3 rfl) ?_
                refine va_get (D := D) (ci := 10) (v := .ref aC) (C := RX11) (T := TX11) (N := 26) hx hb hts iG_X11 hown hK hP 1 rfl rfl 21 (by decide) (hts _ w5_15) (fun _ h9 => h9) rfl dX11_leastCost_99 ?_
                refine lv_iload_n hx hb dX11_leastCost_102 rfl (lv_at hl 2 rfl) ?_
                refine va_iald hx hb hK hP 0 0 rfl rfl (rg_in k7115 (by decide)) dX11_leastCost_103 ?_
                refine lv_topi (fun x10674 ex10674 => ?_)
                have k10675 : Rg x10674 0 1000000 := wF_rd hg10611_0 ex10674
                refine lv_aload_n hx hb dX11_leastCost_104 rfl (lv_at hl 3 rfl) ?_
                refine lv_aload_n hx hb dX11_leastCost_105 rfl (lv_at hl 3 rfl) ?_
                refine va_get (D := D) (ci := 10) (v := .ref an) (C := RX11) (T := TX11) (N := 26) hx hb hts iG_X11 hown hK hP 1 rfl rfl 17 (by decide) (hts _ w5_12) (fun _ h9 => h9) rfl dX11_leastCost_106 ?_
                refine lv_iload_n hx hb dX11_leastCost_109 rfl (lv_at hl 1 rfl) ?_
                refine va_iald hx hb hK hP 4 0 rfl rfl (rg_in k10625 (by decide)) dX11_leastCost_110 ?_
                refine lv_topi (fun x10676 ex10676 => ?_)
                have k10677 : Rg x10676 0 9 := wN_rd k6 ex10676
                refine lv_iload_n hx hb dX11_leastCost_111 rfl (lv_at hl 0 rfl) ?_
                refine kcalli (wc := [(h, oX11 th aw ai ab ac hi re aP ta po en be de fa a5 sp av an ak x1 aW aC ag aT aN aF), (aw, .inl (cI, 2179, .inl fw)), (av, .inl (cI, 400, .inl g10612))]) (wr := [(aC, .inl (cI, 4096, .inl g10611)), (an, .inl (cI, 10, .inl g3)), (ak, .inl (cI, 10, .inl g4))]) hP hD hS hA [1, 2, 3] [0, 4, 5] rfl rfl (by decide) (by decide) (by decide) (fun hPc hDc hFc => va_runV (As := [.int x10676, .int y10610]) (rest := [.int x10674, .int y7107, .ref aC]) ⟨hx, hb, hml, hown, hts⟩ (r_costOfx l D cI cJ cB cC h th aw ai ab ac hi re aP ta po en be de fa a5 sp av an ak x1 aW aC ag aT aN aF fw g10612 x10676 y10610 H.size k10677 k10620 H_fw_W H_fw_L) (cwV 2 hts gX11_leastCost_X11_costOf rfl rfl rfl ⟨rfl, hdX11_costOf⟩ ⟨Nat.le_of_ble_eq_true rfl, Nat.le_of_ble_eq_true rfl⟩) ⟨kBlind, va_recv hK hPc (ci := 10) (q0 := 0) rfl rfl, fun U hU hW => ⟨rfl, by rw [hU], hN.warm hW, hE.pass hS hFc hW hU, by rw [hU]; exact hPc, va_K.moved hW.alike hK, hDc⟩⟩ rfl rfl hl.1 rfl (lv_room (Nat.le_of_ble_eq_true rfl)) dX11_leastCost_112 ⟨Nat.le_of_ble_eq_true rfl, Nat.le_of_ble_eq_true rfl⟩) (fun r10678 u H locs hw hP hD hS => ?_)
                obtain ⟨g10679, rfl⟩ : ∃ z, z = u := ⟨_, rfl⟩
                have hP : va_P D vwCl [(aC, .inl (cI, 4096, .inl g10611)), (an, .inl (cI, 10, .inl g3)), (ak, .inl (cI, 10, .inl g4)), (h, oX11 th aw ai ab ac hi re aP ta po en be de fa a5 sp av an ak x1 aW aC ag aT aN aF), (aw, .inl (cI, 2179, .inl fw)), (av, .inl (cI, 400, .inl g10679))] H := hP
                have hD : va_D A [(aC, .inl (cI, 4096, .inl g10611)), (an, .inl (cI, 10, .inl g3)), (ak, .inl (cI, 10, .inl g4)), (h, oX11 th aw ai ab ac hi re aP ta po en be de fa a5 sp av an ak x1 aW aC ag aT aN aF), (aw, .inl (cI, 2179, .inl fw)), (av, .inl (cI, 400, .inl g10679))] := hD
                obtain ⟨k10680, k10681⟩ := hw
                refine lv_aload_n hx hb dX11_leastCost_115 rfl (lv_at hl 3 rfl) ?_
                refine va_get (D := D) (ci := 10) (v := .ref aC) (C := RX11) (T := TX11) (N := 26) hx hb hts iG_X11 hown hK hP 3 rfl rfl 21 (by decide) (hts _ w5_15) (fun _ h9 => h9) rfl dX11_leastCost_116 ?_
                refine lv_iload_n hx hb dX11_leastCost_119 rfl (lv_at hl 2 rfl) ?_
                refine lv_iconst (v := 1) hx hb dX11_leastCost_120 (by decide) ?_
                refine lv_iload_n hx hb dX11_leastCost_121 rfl (lv_at hl 0 rfl) ?_
                refine lv_ishl hx hb dX11_leastCost_122 ?_
                refine lv_topi (fun x10682 ex10682 => ?_)
                have k10683 : Rg x10682 1 2048 := rg_shl1 11 ex10682 k10620 (by decide)
                refine lv_ior hx hb dX11_leastCost_123 ?_
                refine lv_topi (fun x10684 ex10684 => ?_)
                have k10685 : Rg x10684 0 4095 := rg_or 12 ex10684 k7115 k10683 (by decide)
                refine va_iald hx hb hK hP 0 0 rfl rfl (rg_in k10685 (by decide)) dX11_leastCost_124 ?_
                refine lv_topi (fun x10686 ex10686 => ?_)
                have k10687 : Rg x10686 0 1000000 := wF_rd hg10611_0 ex10686
                refine lv_iadd hx hb dX11_leastCost_125 ?_
                refine lv_topi (fun x10688 ex10688 => ?_)
                have tx10688 : x10688.toInt = r10678.toInt + x10686.toInt := ti_add ex10688 k10681 k10687 (by decide) rfl rfl
                have k10689 : Rg x10688 0 1011988 := rg_add ex10688 k10681 k10687 (by decide)
                refine va_mmin hx hb (by rw [hml]; exact hl.1.symm) hown (hts _ w34_13) (hts _ w24_21) (hts _ w8_7) (hts _ w24_22) (Nat.le_of_ble_eq_true rfl) (Nat.le_of_ble_eq_true rfl) (Nat.le_of_ble_eq_true rfl) (Nat.le_of_ble_eq_true rfl) dX11_leastCost_126 ?_
                refine lv_topi (fun x10690 ex10690 => ?_)
                have k10691 : Rg x10690 0 1000000 := rg_min ex10690 k10675 k10689 (by decide)
                refine va_iast hx hb hK hP hD hS 0 0 rfl rfl (rg_in k7115 (by decide)) dX11_leastCost_129 (fun H locs hP hD hS => ?_)
                have hP : va_P D vwCl [(aC, .inl (cI, 4096, .inl (upd g10611 y7107.toNatClampNeg x10690))), (an, .inl (cI, 10, .inl g3)), (ak, .inl (cI, 10, .inl g4)), (h, oX11 th aw ai ab ac hi re aP ta po en be de fa a5 sp av an ak x1 aW aC ag aT aN aF), (aw, .inl (cI, 2179, .inl fw)), (av, .inl (cI, 400, .inl g10679))] H := hP
                have hD : va_D A [(aC, .inl (cI, 4096, .inl (upd g10611 y7107.toNatClampNeg x10690))), (an, .inl (cI, 10, .inl g3)), (ak, .inl (cI, 10, .inl g4)), (h, oX11 th aw ai ab ac hi re aP ta po en be de fa a5 sp av an ak x1 aW aC ag aT aN aF), (aw, .inl (cI, 2179, .inl fw)), (av, .inl (cI, 400, .inl g10679))] := hD
                have k10693 : wF (upd g10611 y7107.toNatClampNeg x10690) := wF_upd hg10611_0 k10691
                generalize hg10692 : (upd g10611 y7107.toNatClampNeg x10690) = g10692 at hP hD k10693
                obtain ⟨x10694, ex10694⟩ : ∃ y : Int32, y = y10610 + 1 := ⟨_, rfl⟩
                refine lv_iinc (v := x10694) (lv' := [(3, .int x10694), (2, .int r7116), (1, .int y7107), (0, .ref h)]) hx hb dX11_leastCost_130 hl (k := 0) rfl (by rw [ex10694]; rfl) (by decide) rfl (fun ls hl => ?_)
                have k10695 : Rg x10694 1 12 := rg_add ex10694 k10620 (rg_lit (n := 1) (by decide)) (by decide)
                refine lv_goto (tgt := 56) hx hb dX11_leastCost_133 (by decide) ?_
                exact ih10613 (x10694, g10692, g10679) _ _ _ (by show (12 - (x10694).toInt).toNat < (12 - (y10610).toInt).toNat; exact mu_up ex10694 k10620 k10695 (by decide)) ⟨(by rw [(s1_cN (by have q1 := k10620; unfold Rg at q1; omega) (ti_add (Y := 1) ex10694 k10620 (rg_lit (n := 1) (by decide)) (by decide) rfl (by decide)))]; exact inC_go hX56_0 (cn_lt2 (nleI c10622) (by have q1 := k10625; unfold Rg at q1; omega)) (elig_of ex10627 (cl_of (k := cN r7116) k10625 (by decide) (by simp only [cN]; have q1 := k10625; unfold Rg at q1; omega)) k10630 k10628 (rg_w k10620 (by decide)) c10661 k10667 k7115 (Int32.toInt_inj.mp (eqI c10669))) (by rw [ex10674, (cl_of (k := cN y7107) k7115 (by decide) (by simp only [cN]; have q1 := k7115; unfold Rg at q1; omega))]) (by rw [ex10686, (cl_of (k := cN x10684) k10685 (by decide) (by simp only [cN]; have q1 := k10685; unfold Rg at q1; omega)), (or_bit ex10682 ex10684 k7115 (rg_w k10620 (by decide))).1]) k10680 (by rw [ex10676, (cl_of (k := cN r7116) k10625 (by decide) (by simp only [cN]; have q1 := k10625; unfold Rg at q1; omega))]) (nI_cN (rg_w k10620 (by decide) : Rg y10610 0 4095)) tx10688 ex10690 (by rw [← (cl_of (k := cN y7107) k7115 (by decide) (by simp only [cN]; have q1 := k7115; unfold Rg at q1; omega))]; exact hg10692)), (by have q1 := (by have q1 := (nleI c10617); rw [k10] at q1; exact q1); have q2 := (ti_add (Y := 1) ex10694 k10620 (rg_lit (n := 1) (by decide)) (by decide) rfl (by decide)); omega), (rg_w k10695 (by decide)), k10693, hP.sub (ws' := [(aC, .inl (cI, 4096, .inl g10692)), (h, oX11 th aw ai ab ac hi re aP ta po en be de fa a5 sp av an ak x1 aW aC ag aT aN aF), (aw, .inl (cI, 2179, .inl fw)), (av, .inl (cI, 400, .inl g10679)), (an, .inl (cI, 10, .inl g3)), (ak, .inl (cI, 10, .inl g4))]) [0, 3, 4, 5, 1, 2] rfl, hD.sub (ws' := [(aC, .inl (cI, 4096, .inl g10692)), (h, oX11 th aw ai ab ac hi re aP ta po en be de fa a5 sp av an ak x1 aW aC ag aT aN aF), (aw, .inl (cI, 2179, .inl fw)), (av, .inl (cI, 400, .inl g10679)), (an, .inl (cI, 10, .inl g3)), (ak, .inl (cI, 10, .inl g4))]) [0, 3, 4, 5, 1, 2] (by decide) rfl, hS, lv_sub (l' := [(3, .int x10694), (2, .int r7116), (1, .int y7107), (0, .ref h)]) hl [0, 1, 2, 3] rfl⟩
    · skip
      have k10696 : Rg r7116 1 12 := rg_l2 (nleI c8874) k5 k7119 (by decide)
      refine lv_goto (tgt := 136) hx hb dX11_leastCost_30 (by decide) ?_
      obtain ⟨x10697, ex10697⟩ : ∃ y : Int32, y = y7107 + (-1) := ⟨_, rfl⟩
      refine lv_iinc (v := x10697) (lv' := [(1, .int x10697), (2, .int r7116), (0, .ref h)]) hx hb dX11_leastCost_136 hl (k := 1) rfl (by rw [ex10697]; rfl) (by decide) rfl (fun ls hl => ?_)
      have k10698 : Rg x10697 (-1) 4094 := rg_add ex10697 k7115 (rg_lit (n := -1) (by decide)) (by decide)
      refine lv_goto (tgt := 13) hx hb dX11_leastCost_139 (by decide) ?_
      exact ih7110 (x10697, g7108, g7109) _ _ _ (by show ((x10697).toInt - (-1)).toNat < ((y7107).toInt - (-1)).toNat; exact mu_dn ex10697 k7115 k10698 (by decide)) ⟨(tC_out (tC_over (tC_in hX13_0 (by have q1 := k7115; unfold Rg at q1; omega)) (by rw [← (kc_pop k7117 k7115)]; exact cn_lt2 (nleI c8874) (by have q1 := k5; unfold Rg at q1; omega))) (ti_add (Y := -1) ex10697 k7115 (rg_lit (n := -1) (by decide)) (by decide) rfl (by decide))), (by have q1 := hX13_1; have q2 := (ti_add (Y := -1) ex10697 k7115 (rg_lit (n := -1) (by decide)) (by decide) rfl (by decide)); omega), (by have q1 := k7115; have q2 := (ti_add (Y := -1) ex10697 k7115 (rg_lit (n := -1) (by decide)) (by decide) rfl (by decide)); unfold Rg at q1; omega), (rg_w k10698 (by decide)), hg7108_0, hP.sub (ws' := [(aC, .inl (cI, 4096, .inl g7108)), (h, oX11 th aw ai ab ac hi re aP ta po en be de fa a5 sp av an ak x1 aW aC ag aT aN aF), (aw, .inl (cI, 2179, .inl fw)), (av, .inl (cI, 400, .inl g7109)), (an, .inl (cI, 10, .inl g3)), (ak, .inl (cI, 10, .inl g4))]) [0, 1, 2, 3, 4, 5] rfl, hD.sub (ws' := [(aC, .inl (cI, 4096, .inl g7108)), (h, oX11 th aw ai ab ac hi re aP ta po en be de fa a5 sp av an ak x1 aW aC ag aT aN aF), (aw, .inl (cI, 2179, .inl fw)), (av, .inl (cI, 400, .inl g7109)), (an, .inl (cI, 10, .inl g3)), (ak, .inl (cI, 10, .inl g4))]) [0, 1, 2, 3, 4, 5] (by decide) rfl, hS, lv_sub (l' := [(1, .int x10697), (0, .ref h)]) hl [0, 2] rfl⟩

def kwX11_isNext : List Cond := .code yX11_isNext cX11_isNext 5 (some .boolean) :: kG
theorem hdX11_isNext : yX11_isNext.cls ≠ "java/lang/invoke/MethodHandle" ∧ yX11_isNext.cls ≠ "java/lang/invoke/VarHandle" ∧ (parseMethodDescriptor yX11_isNext.desc).map (fun d => d.parameters.length) = some 4 := by decide +kernel
theorem gX11_isNext_X11_has : GoodIn kG (va_wsS RX11 310 yX11_has kwX11_has) := gK w37_11 (gK w37_12 (gK w0_5 (gK w37_13 gGG)))
theorem dX11_isNext_0 : decode cX11_isNext 0 = .ok (.aload_n 0, 1) := by decide +kernel
theorem dX11_isNext_1 : decode cX11_isNext 1 = .ok (.getfield 42, 3) := by decide +kernel
theorem dX11_isNext_4 : decode cX11_isNext 4 = .ok (.iload_n 1, 1) := by decide +kernel
theorem dX11_isNext_5 : decode cX11_isNext 5 = .ok (.iaload, 1) := by decide +kernel
theorem dX11_isNext_6 : decode cX11_isNext 6 = .ok (.iload_n 2, 1) := by decide +kernel
theorem dX11_isNext_7 : decode cX11_isNext 7 = .ok (.invokestatic 310, 3) := by decide +kernel
theorem dX11_isNext_10 : decode cX11_isNext 10 = .ok (.ifCond .eq 11, 3) := by decide +kernel
theorem dX11_isNext_13 : decode cX11_isNext 13 = .ok (.iload_n 3, 1) := by decide +kernel
theorem dX11_isNext_14 : decode cX11_isNext 14 = .ok (.iload_n 2, 1) := by decide +kernel
theorem dX11_isNext_15 : decode cX11_isNext 15 = .ok (.invokestatic 310, 3) := by decide +kernel
theorem dX11_isNext_18 : decode cX11_isNext 18 = .ok (.ifCond .eq 5, 3) := by decide +kernel
theorem dX11_isNext_21 : decode cX11_isNext 21 = .ok (.iconst 0, 1) := by decide +kernel
theorem dX11_isNext_22 : decode cX11_isNext 22 = .ok (.ireturn, 1) := by decide +kernel
theorem dX11_isNext_23 : decode cX11_isNext 23 = .ok (.iload 4, 2) := by decide +kernel
theorem dX11_isNext_25 : decode cX11_isNext 25 = .ok (.ifCond .eq 54, 3) := by decide +kernel
theorem dX11_isNext_79 : decode cX11_isNext 79 = .ok (.aload_n 0, 1) := by decide +kernel
theorem dX11_isNext_80 : decode cX11_isNext 80 = .ok (.getfield 45, 3) := by decide +kernel
theorem dX11_isNext_83 : decode cX11_isNext 83 = .ok (.iload_n 3, 1) := by decide +kernel
theorem dX11_isNext_84 : decode cX11_isNext 84 = .ok (.iconst 1, 1) := by decide +kernel
theorem dX11_isNext_85 : decode cX11_isNext 85 = .ok (.iload_n 2, 1) := by decide +kernel
theorem dX11_isNext_86 : decode cX11_isNext 86 = .ok (.ishl, 1) := by decide +kernel
theorem dX11_isNext_87 : decode cX11_isNext 87 = .ok (.ior, 1) := by decide +kernel
theorem dX11_isNext_88 : decode cX11_isNext 88 = .ok (.laload, 1) := by decide +kernel
theorem dX11_isNext_89 : decode cX11_isNext 89 = .ok (.lconst 0, 1) := by decide +kernel
theorem dX11_isNext_90 : decode cX11_isNext 90 = .ok (.lcmp, 1) := by decide +kernel
theorem dX11_isNext_91 : decode cX11_isNext 91 = .ok (.ifCond .le 7, 3) := by decide +kernel
theorem dX11_isNext_94 : decode cX11_isNext 94 = .ok (.iconst 1, 1) := by decide +kernel
theorem dX11_isNext_95 : decode cX11_isNext 95 = .ok (.goto 4, 3) := by decide +kernel
theorem dX11_isNext_98 : decode cX11_isNext 98 = .ok (.iconst 0, 1) := by decide +kernel
theorem dX11_isNext_99 : decode cX11_isNext 99 = .ok (.ireturn, 1) := by decide +kernel
set_option maxHeartbeats 4000000 in
set_option maxRecDepth 100000 in
/-- reference: isNext -/
theorem r_isNext0 (l : Launch) (D : va_G) (cI cJ cB cC : ClassId) (h : Nat) (th : Int32) (aw : Nat) (ai : Nat) (ab : Nat) (ac : Nat) (hi : Int32) (re : Int32) (aP : Nat) (ta : Int32) (po : Int32) (en : Int32) (be : Int32) (de : Int32) (fa : Int32) (a5 : Nat) (sp : Int32) (av : Nat) (an : Nat) (ak : Nat) (ne : Int32) (aW : Nat) (aC : Nat) (ag : Nat) (aT : Nat) (aN : Nat) (aF : Nat) (fk : Nat → Int32) (fW : Nat → Int64) (kq : Int32) (sq : Int32) (tq : Int32) (sz : Nat) (H_kq : Rg kq 0 9) (H_sq : Rg sq 0 11) (H_tq : Rg tq 0 4095) (H_fk_K : wK fk) : Met l yX11_isNext kwX11_isNext ({ frames := 1, cells := 0, slots := 0, locals := 21 } : Room) (kPre D (kT cI cJ cB cC) sz [(h, oX11 th aw ai ab ac hi re aP ta po en be de fa a5 sp av an ak ne aW aC ag aT aN aF), (ak, .inl (cI, 10, .inl fk)), (aW, .inl (cJ, 4096, .inr (.inl fW)))] [.ref h, .int kq, .int sq, .int tq, .int 0]) (va_Qi (fun (r : Int32) (_ : Unit) => (r = 0 ∧ ¬ nxF fW fk (cN kq) (cN tq) (cN sq)) ∨ (r = 1 ∧ nxF fW fk (cN kq) (cN tq) (cN sq))) (fun (_ : Unit) (t : State) => kB D (kT cI cJ cB cC) (va_A [(h, oX11 th aw ai ab ac hi re aP ta po en be de fa a5 sp av an ak ne aW aC ag aT aN aF), (ak, .inl (cI, 10, .inl fk)), (aW, .inl (cJ, 4096, .inr (.inl fW)))] sz) [(h, oX11 th aw ai ab ac hi re aP ta po en be de fa a5 sp av an ak ne aW aC ag aT aN aF), (ak, .inl (cI, 10, .inl fk)), (aW, .inl (cJ, 4096, .inr (.inl fW)))] t) (va_A [(h, oX11 th aw ai ab ac hi re aP ta po en be de fa a5 sp av an ak ne aW aC ag aT aN aF), (ak, .inl (cI, 10, .inl fk)), (aW, .inl (cJ, 4096, .inr (.inl fW)))] sz)) 0 0 (va_A [(h, oX11 th aw ai ab ac hi re aP ta po en be de fa a5 sp av an ak ne aW aC ag aT aN aF), (ak, .inl (cI, 10, .inl fk)), (aW, .inl (cJ, 4096, .inr (.inl fW)))] sz) := by
  refine Met.ofW (cc := cX11_isNext) (maxL := 5) (ret := (some .boolean)) (by decide) rfl ?_
  intro p e s m args below meth c s₁ B hml hv
  obtain ⟨rfl, hsz, hN, hE, hP, hK, hD0⟩ := hv
  have hx := B.exec
  have hb := B.bytes
  have hr := B.returns
  have hts := fun (w : Cond) (h : w ∈ kG) => atoms_spec (ws := kwX11_isNext) B.pre w (List.mem_cons_of_mem _ h)
  have hown : s.vm.findClass RX11 = some m.cls := findClass_of_methodNamed B.named
  subst hsz
  have hD := hD0.self (sz := s.heap.size)
  generalize hAe : va_A [(h, oX11 th aw ai ab ac hi re aP ta po en be de fa a5 sp av an ak ne aW aC ag aT aN aF), (ak, .inl (cI, 10, .inl fk)), (aW, .inl (cJ, 4096, .inr (.inl fW)))] s.heap.size = A at hD hE ⊢
  have hA : ∀ q : Nat, s.heap.size ≤ q → A q := fun q h => by rw [← hAe]; exact Or.inr h
  have hl := lv_entry ([.ref h, .int kq, .int sq, .int tq, .int 0]) (n := 5) (Nat.le_of_ble_eq_true rfl)
  rw [lg_entry_eq]
  generalize (lg_sl ([.ref h, .int kq, .int sq, .int tq, .int 0]) ++ List.replicate (5 - (lg_sl ([.ref h, .int kq, .int sq, .int tq, .int 0])).length) Slot.unset).toArray = ls at hl ⊢
  have hl : lv_has ls 5 [(0, .ref h), (1, .int kq), (2, .int sq), (3, .int tq), (4, .int 0)] := hl
  obtain ⟨H, hH0⟩ : ∃ H, H = s.heap := ⟨_, rfl⟩
  have hS : va_S A s.heap H [] := by rw [hH0]; exact va_S.rf
  have hP : va_P D vwCl [(h, oX11 th aw ai ab ac hi re aP ta po en be de fa a5 sp av an ak ne aW aC ag aT aN aF), (ak, .inl (cI, 10, .inl fk)), (aW, .inl (cJ, 4096, .inr (.inl fW)))] H := by rw [hH0]; exact hP
  refine kHeap hH0 ?_
  clear hH0
  refine lv_aload_n hx hb dX11_isNext_0 rfl (lv_at hl 0 rfl) ?_
  refine va_get (D := D) (ci := 10) (v := .ref ak) (C := RX11) (T := TX11) (N := 26) hx hb hts iG_X11 hown hK hP 0 rfl rfl 18 (by decide) (hts _ w5_13) (fun _ h9 => h9) rfl dX11_isNext_1 ?_
  refine lv_iload_n hx hb dX11_isNext_4 rfl (lv_at hl 1 rfl) ?_
  refine va_iald hx hb hK hP 1 0 rfl rfl (rg_in H_kq (by decide)) dX11_isNext_5 ?_
  refine lv_topi (fun x1 ex1 => ?_)
  have k2 : Rg x1 0 4095 := wK_rd H_fk_K ex1
  refine lv_iload_n hx hb dX11_isNext_6 rfl (lv_at hl 2 rfl) ?_
  refine kpurei (wc := []) hP hD hS hA [] rfl (by decide) (fun hPc hDc hFc => va_runS (As := [.int x1, .int sq]) (rest := []) ⟨hx, hb, hml, hown, hts⟩ (r_hasx l D cI cJ cB cC x1 sq H.size) (va_cwS 2 hts gX11_isNext_X11_has rfl rfl rfl hdX11_has ⟨Nat.le_of_ble_eq_true rfl, Nat.le_of_ble_eq_true rfl⟩) ⟨kBlind, fun U hU hW => ⟨rfl, by rw [hU], hN.warm hW, hE.pass hS hFc hW hU, by rw [hU]; exact hPc, va_K.moved hW.alike hK, hDc⟩⟩ rfl rfl hl.1 rfl (lv_room (Nat.le_of_ble_eq_true rfl)) dX11_isNext_7 ⟨Nat.le_of_ble_eq_true rfl, Nat.le_of_ble_eq_true rfl⟩) (fun r3 u H locs hw hP hS => ?_)
  obtain ⟨k4, k5⟩ := hw
  refine lv_if_eq (tgt := 21) hx hb dX11_isNext_10 (by decide) (fun c26 => ?_) (fun c26 => ?_)
  · skip
    have k27 : Rg r3 0 0 := rg_q1 (eqI c26) k5 (rg_lit (n := 0) (by decide)) (by decide)
    refine lv_iconst (v := 0) hx hb dX11_isNext_21 (by decide) ?_
    have hP9 := hP.sub (ws' := [(h, oX11 th aw ai ab ac hi re aP ta po en be de fa a5 sp av an ak ne aW aC ag aT aN aF), (ak, .inl (cI, 10, .inl fk)), (aW, .inl (cJ, 4096, .inr (.inl fW)))]) [0, 1, 2] rfl
    have hD9 := hD.sub (ws' := [(h, oX11 th aw ai ab ac hi re aP ta po en be de fa a5 sp av an ak ne aW aC ag aT aN aF), (ak, .inl (cI, 10, .inl fk)), (aW, .inl (cJ, 4096, .inr (.inl fW)))]) [0, 1, 2] (by decide) rfl
    exact W.zret (v := 0) hx hb hr (by decide) (fun t ht hW => ⟨⟨0, (), rfl, (Or.inl ⟨rfl, (fun q => nelig1 ex1 (cl_of (k := cN kq) H_kq (by decide) (by simp only [cN]; have q1 := H_kq; unfold Rg at q1; omega)) k4 k2 (rg_w H_sq (by decide)) (Int32.toInt_inj.mp (eqI c26)) q.1)⟩), by rw [ht]; exact hP9, va_K.moved hW.alike hK, hD9⟩, hS.F ht⟩) hS.2.2 dX11_isNext_22
  · skip
    have k28 : Rg r3 1 1 := rg_n1 (neI c26) k5 (rg_lit (n := 0) (by decide)) (by decide)
    refine lv_iload_n hx hb dX11_isNext_13 rfl (lv_at hl 3 rfl) ?_
    refine lv_iload_n hx hb dX11_isNext_14 rfl (lv_at hl 2 rfl) ?_
    refine kpurei (wc := []) hP hD hS hA [] rfl (by decide) (fun hPc hDc hFc => va_runS (As := [.int tq, .int sq]) (rest := []) ⟨hx, hb, hml, hown, hts⟩ (r_hasx l D cI cJ cB cC tq sq H.size) (va_cwS 2 hts gX11_isNext_X11_has rfl rfl rfl hdX11_has ⟨Nat.le_of_ble_eq_true rfl, Nat.le_of_ble_eq_true rfl⟩) ⟨kBlind, fun U hU hW => ⟨rfl, by rw [hU], hN.warm hW, hE.pass hS hFc hW hU, by rw [hU]; exact hPc, va_K.moved hW.alike hK, hDc⟩⟩ rfl rfl hl.1 rfl (lv_room (Nat.le_of_ble_eq_true rfl)) dX11_isNext_15 ⟨Nat.le_of_ble_eq_true rfl, Nat.le_of_ble_eq_true rfl⟩) (fun r29 u H locs hw hP hS => ?_)
    obtain ⟨k30, k31⟩ := hw
    refine lv_if_eq (tgt := 23) hx hb dX11_isNext_18 (by decide) (fun c32 => ?_) (fun c32 => ?_)
    · skip
      have k33 : Rg r29 0 0 := rg_q1 (eqI c32) k31 (rg_lit (n := 0) (by decide)) (by decide)
      refine lv_iload hx hb dX11_isNext_23 (lv_at hl 4 rfl) ?_
      refine lv_if_eq (tgt := 79) hx hb dX11_isNext_25 (by decide) (fun _ => ?_) (fun c45 => absurd (by decide) c45)
      refine lv_aload_n hx hb dX11_isNext_79 rfl (lv_at hl 0 rfl) ?_
      refine va_get (D := D) (ci := 10) (v := .ref aW) (C := RX11) (T := TX11) (N := 26) hx hb hts iG_X11 hown hK hP 0 rfl rfl 20 (by decide) (hts _ w5_14) (fun _ h9 => h9) rfl dX11_isNext_80 ?_
      refine lv_iload_n hx hb dX11_isNext_83 rfl (lv_at hl 3 rfl) ?_
      refine lv_iconst (v := 1) hx hb dX11_isNext_84 (by decide) ?_
      refine lv_iload_n hx hb dX11_isNext_85 rfl (lv_at hl 2 rfl) ?_
      refine lv_ishl hx hb dX11_isNext_86 ?_
      refine lv_topi (fun x46 ex46 => ?_)
      have k47 : Rg x46 1 2048 := rg_shl1 11 ex46 H_sq (by decide)
      refine lv_ior hx hb dX11_isNext_87 ?_
      refine lv_topi (fun x48 ex48 => ?_)
      have k49 : Rg x48 0 4095 := rg_or 12 ex48 H_tq k47 (by decide)
      refine va_lald hx hb hK hP 2 1 rfl rfl (rg_in k49 (by decide)) dX11_isNext_88 ?_
      refine lv_topl (fun x50 ex50 => ?_)
      refine lv_lconst (v := 0) hx hb dX11_isNext_89 (by decide) ?_
      refine W.lcmp hx hb dX11_isNext_90 ?_
      refine lv_topi (fun x51 ex51 => ?_)
      have k52 : Rg x51 (-1) 1 := rg_cmp ex51
      refine lv_if_le (tgt := 98) hx hb dX11_isNext_91 (by decide) (fun c53 => ?_) (fun c53 => ?_)
      · skip
        have k54 : Rg x51 (-1) 0 := rg_e1 (leI c53) k52 (rg_lit (n := 0) (by decide)) (by decide)
        refine lv_iconst (v := 0) hx hb dX11_isNext_98 (by decide) ?_
        have hP9 := hP.sub (ws' := [(h, oX11 th aw ai ab ac hi re aP ta po en be de fa a5 sp av an ak ne aW aC ag aT aN aF), (ak, .inl (cI, 10, .inl fk)), (aW, .inl (cJ, 4096, .inr (.inl fW)))]) [0, 1, 2] rfl
        have hD9 := hD.sub (ws' := [(h, oX11 th aw ai ab ac hi re aP ta po en be de fa a5 sp av an ak ne aW aC ag aT aN aF), (ak, .inl (cI, 10, .inl fk)), (aW, .inl (cJ, 4096, .inr (.inl fW)))]) [0, 1, 2] (by decide) rfl
        exact W.zret (v := 0) hx hb hr (by decide) (fun t ht hW => ⟨⟨0, (), rfl, (Or.inl ⟨rfl, (fun q => cmp_np ex51 (by have q1 := (leI c53); have q2 : (0 : Int32).toInt = 0 := (by decide); omega) (by rw [ex50, (cl_of (k := cN x48) k49 (by decide) (by simp only [cN]; have q1 := k49; unfold Rg at q1; omega)), (or_bit ex46 ex48 H_tq H_sq).1]; exact q.2))⟩), by rw [ht]; exact hP9, va_K.moved hW.alike hK, hD9⟩, hS.F ht⟩) hS.2.2 dX11_isNext_99
      · skip
        have k55 : Rg x51 1 1 := rg_l2 (nleI c53) (rg_lit (n := 0) (by decide)) k52 (by decide)
        refine lv_iconst (v := 1) hx hb dX11_isNext_94 (by decide) ?_
        refine lv_goto (tgt := 99) hx hb dX11_isNext_95 (by decide) ?_
        have hP9 := hP.sub (ws' := [(h, oX11 th aw ai ab ac hi re aP ta po en be de fa a5 sp av an ak ne aW aC ag aT aN aF), (ak, .inl (cI, 10, .inl fk)), (aW, .inl (cJ, 4096, .inr (.inl fW)))]) [0, 1, 2] rfl
        have hD9 := hD.sub (ws' := [(h, oX11 th aw ai ab ac hi re aP ta po en be de fa a5 sp av an ak ne aW aC ag aT aN aF), (ak, .inl (cI, 10, .inl fk)), (aW, .inl (cJ, 4096, .inr (.inl fW)))]) [0, 1, 2] (by decide) rfl
        exact W.zret (v := 1) hx hb hr (by decide) (fun t ht hW => ⟨⟨1, (), rfl, (Or.inr ⟨rfl, ⟨(elig_of ex1 (cl_of (k := cN kq) H_kq (by decide) (by simp only [cN]; have q1 := H_kq; unfold Rg at q1; omega)) k4 k2 (rg_w H_sq (by decide)) c26 k30 H_tq (Int32.toInt_inj.mp (eqI c32))), by rw [← (or_bit ex46 ex48 H_tq H_sq).1, ← (cl_of (k := cN x48) k49 (by decide) (by simp only [cN]; have q1 := k49; unfold Rg at q1; omega)), ← ex50]; exact cmp_pos ex51 (by have q1 := (nleI c53); have q2 : (0 : Int32).toInt = 0 := (by decide); omega)⟩⟩), by rw [ht]; exact hP9, va_K.moved hW.alike hK, hD9⟩, hS.F ht⟩) hS.2.2 dX11_isNext_99
    · skip
      have k56 : Rg r29 1 1 := rg_n1 (neI c32) k31 (rg_lit (n := 0) (by decide)) (by decide)
      refine lv_iconst (v := 0) hx hb dX11_isNext_21 (by decide) ?_
      have hP9 := hP.sub (ws' := [(h, oX11 th aw ai ab ac hi re aP ta po en be de fa a5 sp av an ak ne aW aC ag aT aN aF), (ak, .inl (cI, 10, .inl fk)), (aW, .inl (cJ, 4096, .inr (.inl fW)))]) [0, 1, 2] rfl
      have hD9 := hD.sub (ws' := [(h, oX11 th aw ai ab ac hi re aP ta po en be de fa a5 sp av an ak ne aW aC ag aT aN aF), (ak, .inl (cI, 10, .inl fk)), (aW, .inl (cJ, 4096, .inr (.inl fW)))]) [0, 1, 2] (by decide) rfl
      exact W.zret (v := 0) hx hb hr (by decide) (fun t ht hW => ⟨⟨0, (), rfl, (Or.inl ⟨rfl, (fun q => nelig2 k30 H_tq (rg_w H_sq (by decide)) c32 q.1)⟩), by rw [ht]; exact hP9, va_K.moved hW.alike hK, hD9⟩, hS.F ht⟩) hS.2.2 dX11_isNext_22

