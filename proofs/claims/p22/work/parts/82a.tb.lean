set_option maxHeartbeats 4000000 in
set_option maxRecDepth 100000 in
/-- reference: allWays -/
theorem r_allWaysx (l : Launch) (D : va_G) (cI cJ cB cC : ClassId) (h : Nat) (th : Int32) (aw : Nat) (ai : Nat) (ab : Nat) (ac : Nat) (hi : Int32) (re : Int32) (aP : Nat) (ta : Int32) (po : Int32) (en : Int32) (be : Int32) (de : Int32) (fa : Int32) (a5 : Nat) (sp : Int32) (av : Nat) (an : Nat) (ak : Nat) (ne : Int32) (aW : Nat) (aC : Nat) (ag : Nat) (aT : Nat) (aN : Nat) (aF : Nat) (fw : Nat → Int32) (fv : Nat → Int32) (fn : Nat → Int32) (fk : Nat → Int32) (fW : Nat → Int64) (sz : Nat) (H_fw_W : wW fw) (H_fw_L : wL fw) (H_fn_N : wN fn) (H_fk_K : wK fk) : Met l yX11_allWays kwX11_allWays ({ frames := 8, cells := 0, slots := 0, locals := 188 } : Room) (kPre D (kT cI cJ cB cC) sz [(h, oX11 th aw ai ab ac hi re aP ta po en be de fa a5 sp av an ak ne aW aC ag aT aN aF), (aw, kcI cI 2179 fw), (av, kcI cI 400 fv), (an, kcI cI 10 fn), (ak, kcI cI 10 fk), (aW, kcJ cJ 4096 fW)] [.ref h]) (va_Ql (fun (r : Int64) (uu : Int32 × (Nat → Int32) × (Nat → Int32) × (Nat → Int32) × (Nat → Int64)) => match uu with | (n0_, f1_, f2_, f3_, f4_) => Rg n0_ 0 10 ∧ wN f2_ ∧ wK f3_ ∧ (tW f4_ f3_ (cN n0_) (cN (fw 1)) 0) ∧ (lkP fw f2_ f3_ n0_ (cN (fw 0))) ∧ (r = f4_ 0) ∧ F_r_allWaysx (gT fw) (gT fv) (gT fn) (gT fk) fW = (r, (n0_ : Int32).toInt, (gT f1_), (gT f2_), (gT f3_), f4_)) (fun (uu : Int32 × (Nat → Int32) × (Nat → Int32) × (Nat → Int32) × (Nat → Int64)) (t : State) => match uu with | (n0_, f1_, f2_, f3_, f4_) => kB D (kT cI cJ cB cC) (va_A [(h, oX11 th aw ai ab ac hi re aP ta po en be de fa a5 sp av an ak ne aW aC ag aT aN aF), (aw, kcI cI 2179 fw), (av, kcI cI 400 fv), (an, kcI cI 10 fn), (ak, kcI cI 10 fk), (aW, kcJ cJ 4096 fW)] sz) [(h, oX11 th aw ai ab ac hi re aP ta po en be de fa a5 sp av an ak n0_ aW aC ag aT aN aF), (aw, kcI cI 2179 fw), (av, kcI cI 400 f1_), (an, kcI cI 10 f2_), (ak, kcI cI 10 f3_), (aW, kcJ cJ 4096 f4_)] t) (va_A [(h, oX11 th aw ai ab ac hi re aP ta po en be de fa a5 sp av an ak ne aW aC ag aT aN aF), (aw, kcI cI 2179 fw), (av, kcI cI 400 fv), (an, kcI cI 10 fn), (ak, kcI cI 10 fk), (aW, kcJ cJ 4096 fW)] sz)) 0 0 (va_A [(h, oX11 th aw ai ab ac hi re aP ta po en be de fa a5 sp av an ak ne aW aC ag aT aN aF), (aw, kcI cI 2179 fw), (av, kcI cI 400 fv), (an, kcI cI 10 fn), (ak, kcI cI 10 fk), (aW, kcJ cJ 4096 fW)] sz) := by
  refine Met.ofW (cc := cX11_allWays) (maxL := 4) (ret := (some .long)) (by decide) rfl ?_
  intro p e s m args below meth c s₁ B hml hv
  obtain ⟨rfl, hsz, hN, hE, hP, hK, hD0⟩ := hv
  have hx := B.exec
  have hb := B.bytes
  have hr := B.returns
  have hts := fun (w : Cond) (h : w ∈ kG) => atoms_spec (ws := kwX11_allWays) B.pre w (List.mem_cons_of_mem _ h)
  have hown : s.vm.findClass RX11 = some m.cls := findClass_of_methodNamed B.named
  subst hsz
  have hD := hD0.self (sz := s.heap.size)
  generalize hAe : va_A [(h, oX11 th aw ai ab ac hi re aP ta po en be de fa a5 sp av an ak ne aW aC ag aT aN aF), (aw, kcI cI 2179 fw), (av, kcI cI 400 fv), (an, kcI cI 10 fn), (ak, kcI cI 10 fk), (aW, kcJ cJ 4096 fW)] s.heap.size = A at hD hE ⊢
  have hA : ∀ q : Nat, s.heap.size ≤ q → A q := fun q h => by rw [← hAe]; exact Or.inr h
  have hl := lv_entry ([.ref h]) (n := 4) (Nat.le_of_ble_eq_true rfl)
  rw [lg_entry_eq]
  generalize (lg_sl ([.ref h]) ++ List.replicate (4 - (lg_sl ([.ref h])).length) Slot.unset).toArray = ls at hl ⊢
  have hl : lv_has ls 4 [(0, .ref h)] := hl
  obtain ⟨H, hH0⟩ : ∃ H, H = s.heap := ⟨_, rfl⟩
  have hS : va_S A s.heap H [] := by rw [hH0]; exact va_S.rf
  have hP : va_P D vwCl [(h, oX11 th aw ai ab ac hi re aP ta po en be de fa a5 sp av an ak ne aW aC ag aT aN aF), (aw, kcI cI 2179 fw), (av, kcI cI 400 fv), (an, kcI cI 10 fn), (ak, kcI cI 10 fk), (aW, kcJ cJ 4096 fW)] H := by rw [hH0]; exact hP
  refine kHeap hH0 ?_
  clear hH0
  refine lv_aload_n hx hb dX11_allWays_0 rfl (lv_at hl 0 rfl) ?_
  refine kcallv (wc := [(h, oX11 th aw ai ab ac hi re aP ta po en be de fa a5 sp av an ak ne aW aC ag aT aN aF), (aw, kcI cI 2179 fw), (av, kcI cI 400 fv), (an, kcI cI 10 fn), (ak, kcI cI 10 fk)]) (wr := [(aW, kcJ cJ 4096 fW)]) hP hD hS hA [0, 1, 2, 3, 4] [5] rfl rfl (by decide) (by decide) (by decide) (fun hPc hDc hFc => va_runV (As := []) (rest := []) ⟨hx, hb, hml, hown, hts⟩ (r_looksx l D cI cJ cB cC h th aw ai ab ac hi re aP ta po en be de fa a5 sp av an ak ne aW aC ag aT aN aF fw fv fn fk H.size H_fw_W H_fw_L H_fn_N H_fk_K) (cwV 0 hts gX11_allWays_X11_looks rfl rfl rfl ⟨rfl, hdX11_looks⟩ ⟨Nat.le_of_ble_eq_true rfl, Nat.le_of_ble_eq_true rfl⟩) ⟨kBlind, va_recv hK hPc (ci := 10) (q0 := 0) rfl rfl, fun U hU hW => ⟨rfl, by rw [hU], hN.warm hW, hE.pass hS hFc hW hU, by rw [hU]; exact hPc, va_K.moved hW.alike hK, hDc⟩⟩ rfl rfl hl.1 rfl (lv_room (Nat.le_of_ble_eq_true rfl)) dX11_allWays_1 ⟨Nat.le_of_ble_eq_true rfl, Nat.le_of_ble_eq_true rfl⟩) (fun u H locs hw hP hD hS => ?_)
  obtain ⟨x1, g2, g3, g4⟩ := u
  have hP : va_P D vwCl [(aW, kcJ cJ 4096 fW), (h, oX11 th aw ai ab ac hi re aP ta po en be de fa a5 sp av an ak x1 aW aC ag aT aN aF), (aw, kcI cI 2179 fw), (av, kcI cI 400 g2), (an, kcI cI 10 g3), (ak, kcI cI 10 g4)] H := hP
  have hD : va_D A [(aW, kcJ cJ 4096 fW), (h, oX11 th aw ai ab ac hi re aP ta po en be de fa a5 sp av an ak x1 aW aC ag aT aN aF), (aw, kcI cI 2179 fw), (av, kcI cI 400 g2), (an, kcI cI 10 g3), (ak, kcI cI 10 g4)] := hD
  obtain ⟨k5, k6, k7, k8, k9⟩ := hw
  refine lv_iconst (v := 1) hx hb dX11_allWays_4 (by decide) ?_
  refine lv_aload_n hx hb dX11_allWays_5 rfl (lv_at hl 0 rfl) ?_
  refine kpurei (wc := [(h, oX11 th aw ai ab ac hi re aP ta po en be de fa a5 sp av an ak x1 aW aC ag aT aN aF), (aw, kcI cI 2179 fw)]) hP hD hS hA [1, 2] rfl (by decide) (fun hPc hDc hFc => va_runV (As := []) (rest := [.int 1]) ⟨hx, hb, hml, hown, hts⟩ (r_shirts l D cI cJ cB cC h th aw ai ab ac hi re aP ta po en be de fa a5 sp av an ak x1 aW aC ag aT aN aF fw H.size H_fw_W) (cwV 0 hts gX11_allWays_X11_shirts rfl rfl rfl ⟨rfl, hdX11_shirts⟩ ⟨Nat.le_of_ble_eq_true rfl, Nat.le_of_ble_eq_true rfl⟩) ⟨kBlind, va_recv hK hPc (ci := 10) (q0 := 0) rfl rfl, fun U hU hW => ⟨rfl, by rw [hU], hN.warm hW, hE.pass hS hFc hW hU, by rw [hU]; exact hPc, va_K.moved hW.alike hK, hDc⟩⟩ rfl rfl hl.1 rfl (lv_room (Nat.le_of_ble_eq_true rfl)) dX11_allWays_6 ⟨Nat.le_of_ble_eq_true rfl, Nat.le_of_ble_eq_true rfl⟩) (fun r10 u H locs hw hP hS => ?_)
  obtain ⟨k11, k12, k13⟩ := hw
  refine lv_ishl hx hb dX11_allWays_9 ?_
  refine lv_topi (fun x14 ex14 => ?_)
  have k15 : Rg x14 1 4096 := rg_shl1 12 ex14 k12 (by decide)
  refine lv_iconst (v := 1) hx hb dX11_allWays_10 (by decide) ?_
  refine lv_isub hx hb dX11_allWays_11 ?_
  refine lv_topi (fun x16 ex16 => ?_)
  have tx16 : x16.toInt = x14.toInt - 1 := ti_sub ex16 k15 (rg_lit (n := 1) (by decide)) (by decide) rfl (by decide)
  have k17 : Rg x16 0 4095 := rg_sub ex16 k15 (rg_lit (n := 1) (by decide)) (by decide)
  refine lv_istore_n (lv' := [(1, .int x16), (0, .ref h)]) hx hb dX11_allWays_12 rfl hl (by decide) rfl (fun ls hl => ?_)
  refine k_loop (hd := 13) (fun (u : Int32 × (Nat → Int64)) => match u with | (y5750, g5751) => ((y5750).toInt - (-1)).toNat) (fun (u : Int32 × (Nat → Int64)) (H : Heap) (locs : List Loc) (ls : Array Slot) => match u with | (y5750, g5751) => (tW g5751 g4 (cN x1) (cN (fw 1)) ((y5750 : Int32).toInt + 1).toNat) ∧ ((y5750 : Int32).toInt < ((2 ^ cN (fw 1) : Nat) : Int)) ∧ (-1 ≤ (y5750 : Int32).toInt) ∧ (F_r_allWaysx (gT fw) (gT fv) (gT fn) (gT fk) fW = F_r_allWaysx_l1 (gT fw) x1.toInt (gT g2) (gT g3) (gT g4) r10.toInt (y5750.toInt, g5751)) ∧ Rg y5750 (-1) 4095 ∧ va_P D vwCl [(aW, kcJ cJ 4096 g5751), (h, oX11 th aw ai ab ac hi re aP ta po en be de fa a5 sp av an ak x1 aW aC ag aT aN aF), (aw, kcI cI 2179 fw), (av, kcI cI 400 g2), (an, kcI cI 10 g3), (ak, kcI cI 10 g4)] H ∧ va_D A [(aW, kcJ cJ 4096 g5751), (h, oX11 th aw ai ab ac hi re aP ta po en be de fa a5 sp av an ak x1 aW aC ag aT aN aF), (aw, kcI cI 2179 fw), (av, kcI cI 400 g2), (an, kcI cI 10 g3), (ak, kcI cI 10 g4)] ∧ va_S A s.heap H locs ∧ lv_has ls 4 [(1, .int y5750), (0, .ref h)]) (x16, fW) ⟨(by rw [← k11]; exact tW_top (shl_top ex14 ex16 k12).1), (by rw [← k11]; exact lt_p1 (shl_top ex14 ex16 k12).1), (by have q1 := k17; unfold Rg at q1; omega), (kC_eq k9 (kC_eq rfl (kC_eq rfl (kLet_eq (k13).symm (kLet_eq (ke_shl ex14) (kLet_eq (ti_sub ex16 k15 (rg_lit (n := 1) (by decide)) (by decide) rfl rfl) rfl)))))), (rg_w k17 (by decide)), hP.sub (ws' := [(aW, kcJ cJ 4096 fW), (h, oX11 th aw ai ab ac hi re aP ta po en be de fa a5 sp av an ak x1 aW aC ag aT aN aF), (aw, kcI cI 2179 fw), (av, kcI cI 400 g2), (an, kcI cI 10 g3), (ak, kcI cI 10 g4)]) [0, 1, 2, 3, 4, 5] rfl, hD.sub (ws' := [(aW, kcJ cJ 4096 fW), (h, oX11 th aw ai ab ac hi re aP ta po en be de fa a5 sp av an ak x1 aW aC ag aT aN aF), (aw, kcI cI 2179 fw), (av, kcI cI 400 g2), (an, kcI cI 10 g3), (ak, kcI cI 10 g4)]) [0, 1, 2, 3, 4, 5] (by decide) rfl, hS, lv_sub (l' := [(1, .int x16), (0, .ref h)]) hl [0, 1] rfl⟩ (fun u H locs ls hI ih5752 => ?_)
  clear hP hD hS hl
  obtain ⟨y5750, g5751⟩ := u
  obtain ⟨hX13_0, hX13_1, hX13_2, hF1, hy5750, hP, hD, hS, hl⟩ := hI
  have hP : va_P D vwCl [(aW, kcJ cJ 4096 g5751), (h, oX11 th aw ai ab ac hi re aP ta po en be de fa a5 sp av an ak x1 aW aC ag aT aN aF), (aw, kcI cI 2179 fw), (av, kcI cI 400 g2), (an, kcI cI 10 g3), (ak, kcI cI 10 g4)] H := hP
  have hD : va_D A [(aW, kcJ cJ 4096 g5751), (h, oX11 th aw ai ab ac hi re aP ta po en be de fa a5 sp av an ak x1 aW aC ag aT aN aF), (aw, kcI cI 2179 fw), (av, kcI cI 400 g2), (an, kcI cI 10 g3), (ak, kcI cI 10 g4)] := hD
  have hl : lv_has ls 4 [(1, .int y5750), (0, .ref h)] := hl
  refine lv_iload_n hx hb dX11_allWays_13 rfl (lv_at hl 0 rfl) ?_
  refine lv_if_lt (tgt := 122) hx hb dX11_allWays_14 (by decide) (fun c5753 => ?_) (fun c5753 => ?_)
  · skip
    have k5754 : Rg y5750 (-1) (-1) := rg_l1 (ltI c5753) hy5750 (rg_lit (n := 0) (by decide)) (by decide)
    refine lv_aload_n hx hb dX11_allWays_122 rfl (lv_at hl 1 rfl) ?_
    refine va_get (D := D) (ci := 10) (v := .ref aW) (C := RX11) (T := TX11) (N := 26) hx hb hts iG_X11 hown hK hP 1 rfl rfl 20 (by decide) (hts _ w5_14) (fun _ h9 => h9) rfl dX11_allWays_123 ?_
    refine lv_iconst (v := 0) hx hb dX11_allWays_126 (by decide) ?_
    refine va_lald hx hb hK hP 0 1 rfl rfl (rg_in (rg_lit (n := 0) (by decide)) (by decide)) dX11_allWays_127 ?_
    refine lv_topl (fun x5755 ex5755 => ?_)
    have hP9 := hP.sub (ws' := [(h, oX11 th aw ai ab ac hi re aP ta po en be de fa a5 sp av an ak x1 aW aC ag aT aN aF), (aw, kcI cI 2179 fw), (av, kcI cI 400 g2), (an, kcI cI 10 g3), (ak, kcI cI 10 g4), (aW, kcJ cJ 4096 g5751)]) [1, 2, 3, 4, 5, 0] rfl
    have hD9 := hD.sub (ws' := [(h, oX11 th aw ai ab ac hi re aP ta po en be de fa a5 sp av an ak x1 aW aC ag aT aN aF), (aw, kcI cI 2179 fw), (av, kcI cI 400 g2), (an, kcI cI 10 g3), (ak, kcI cI 10 g4), (aW, kcJ cJ 4096 g5751)]) [1, 2, 3, 4, 5, 0] (by decide) rfl
    exact W.lret (v := x5755) hx hb hr (fun t ht hW => ⟨⟨x5755, (x1, g2, g3, g4, g5751), rfl, ⟨k5, k6, k7, (tW_all hX13_0 (by have q1 := (ltI c5753); have q2 : (0 : Int32).toInt = 0 := (by decide); omega)), k8, ex5755, (hF1.trans (kIter_out (kC_eq rfl (kif_t (ltI c5753) (kLet_eq (ke_ldL ex5755) rfl)))))⟩, by rw [ht]; exact hP9, va_K.moved hW.alike hK, hD9⟩, hS.F ht⟩) hS.2.2 dX11_allWays_128
  · skip
    have k5756 : Rg y5750 0 4095 := rg_e2 (nltI c5753) (rg_lit (n := 0) (by decide)) hy5750 (by decide)
    refine lv_iload_n hx hb dX11_allWays_17 rfl (lv_at hl 0 rfl) ?_
    refine kpurei (wc := []) hP hD hS hA [] rfl (by decide) (fun hPc hDc hFc => va_runS (As := [.int y5750]) (rest := []) ⟨hx, hb, hml, hown, hts⟩ (z_bitCountx l D cI cJ cB cC y5750 H.size) (va_cwS 1 hts gX11_allWays_J6_bitCount_0f7a4 rfl rfl rfl hdJ6_bitCount_0f7a4 ⟨Nat.le_of_ble_eq_true rfl, Nat.le_of_ble_eq_true rfl⟩) ⟨kBlind, fun U hU hW => ⟨rfl, by rw [hU], hN.warm hW, hE.pass hS hFc hW hU, by rw [hU]; exact hPc, va_K.moved hW.alike hK, hDc⟩⟩ rfl rfl hl.1 rfl (lv_room (Nat.le_of_ble_eq_true rfl)) dX11_allWays_18 ⟨Nat.le_of_ble_eq_true rfl, Nat.le_of_ble_eq_true rfl⟩) (fun r5757 u H locs hw hP hS => ?_)
    obtain ⟨k5758, k5759, k5760⟩ := hw
    have k5761 : Rg r5757 0 12 := (kBC_rg k5758 k5756).2
    refine lv_istore_n (lv' := [(2, .int r5757), (1, .int y5750), (0, .ref h)]) hx hb dX11_allWays_21 rfl hl (by decide) rfl (fun ls hl => ?_)
    refine lv_iload_n hx hb dX11_allWays_22 rfl (lv_at hl 0 rfl) ?_
    refine lv_aload_n hx hb dX11_allWays_23 rfl (lv_at hl 2 rfl) ?_
    refine va_get (D := D) (ci := 10) (v := .int x1) (C := RX11) (T := TX11) (N := 26) hx hb hts iG_X11 hown hK hP 1 rfl rfl 19 (by decide) (hts _ w40_7) (fun _ h9 => h9) rfl dX11_allWays_24 ?_
    refine lv_icmp_le (tgt := 33) hx hb dX11_allWays_27 (by decide) (fun c7176 => ?_) (fun c7176 => ?_)
    · skip
      have k7177 : Rg r5757 0 10 := rg_e1 (leI c7176) k5761 k5 (by decide)
      refine lv_aload_n hx hb dX11_allWays_33 rfl (lv_at hl 2 rfl) ?_
      refine va_get (D := D) (ci := 10) (v := .ref aW) (C := RX11) (T := TX11) (N := 26) hx hb hts iG_X11 hown hK hP 1 rfl rfl 20 (by decide) (hts _ w5_14) (fun _ h9 => h9) rfl dX11_allWays_34 ?_
      refine lv_iload_n hx hb dX11_allWays_37 rfl (lv_at hl 1 rfl) ?_
      refine lv_iload_n hx hb dX11_allWays_38 rfl (lv_at hl 0 rfl) ?_
      refine lv_aload_n hx hb dX11_allWays_39 rfl (lv_at hl 2 rfl) ?_
      refine va_get (D := D) (ci := 10) (v := .int x1) (C := RX11) (T := TX11) (N := 26) hx hb hts iG_X11 hown hK hP 1 rfl rfl 19 (by decide) (hts _ w40_7) (fun _ h9 => h9) rfl dX11_allWays_40 ?_
      refine lv_icmp_ne (tgt := 50) hx hb dX11_allWays_43 (by decide) (fun c7179 => ?_) (fun c7179 => ?_)
      · skip
        refine lv_lconst (v := 0) hx hb dX11_allWays_50 (by decide) ?_
        refine va_last hx hb hK hP hD hS 0 1 rfl rfl (rg_in k5756 (by decide)) dX11_allWays_51 (fun H locs hP hD hS => ?_)
        have hP : va_P D vwCl [(aW, kcJ cJ 4096 (vp_updL g5751 y5750.toNatClampNeg 0)), (h, oX11 th aw ai ab ac hi re aP ta po en be de fa a5 sp av an ak x1 aW aC ag aT aN aF), (aw, kcI cI 2179 fw), (av, kcI cI 400 g2), (an, kcI cI 10 g3), (ak, kcI cI 10 g4)] H := hP
        have hD : va_D A [(aW, kcJ cJ 4096 (vp_updL g5751 y5750.toNatClampNeg 0)), (h, oX11 th aw ai ab ac hi re aP ta po en be de fa a5 sp av an ak x1 aW aC ag aT aN aF), (aw, kcI cI 2179 fw), (av, kcI cI 400 g2), (an, kcI cI 10 g3), (ak, kcI cI 10 g4)] := hD
        generalize hg7180 : (vp_updL g5751 y5750.toNatClampNeg 0) = g7180 at hP hD
        refine lv_iconst (v := 0) hx hb dX11_allWays_52 (by decide) ?_
        refine lv_istore_n (lv' := [(3, .int 0), (2, .int r5757), (1, .int y5750), (0, .ref h)]) hx hb dX11_allWays_53 rfl hl (by decide) rfl (fun ls hl => ?_)
        refine k_loop (hd := 54) (fun (u : Int32 × (Nat → Int64)) => match u with | (y7843, g7844) => (12 - (y7843).toInt).toNat) (fun (u : Int32 × (Nat → Int64)) (H : Heap) (locs : List Loc) (ls : Array Slot) => match u with | (y7843, g7844) => (inW g7844 g4 (cN x1) (cN (fw 1)) (cN y5750) (cN r5757) (cN y7843)) ∧ ((y7843 : Int32).toInt ≤ (fw 1).toInt) ∧ (F_r_allWaysx_l1_s (gT fw) x1.toInt (gT g2) (gT g3) (gT g4) r10.toInt (y5750.toInt, g5751) = F_r_allWaysx_l2 (gT fw) x1.toInt (gT g4) r10.toInt y5750.toInt r5757.toInt (y7843.toInt, g7844)) ∧ Rg y7843 0 12 ∧ va_P D vwCl [(aW, kcJ cJ 4096 g7844), (h, oX11 th aw ai ab ac hi re aP ta po en be de fa a5 sp av an ak x1 aW aC ag aT aN aF), (aw, kcI cI 2179 fw), (av, kcI cI 400 g2), (an, kcI cI 10 g3), (ak, kcI cI 10 g4)] H ∧ va_D A [(aW, kcJ cJ 4096 g7844), (h, oX11 th aw ai ab ac hi re aP ta po en be de fa a5 sp av an ak x1 aW aC ag aT aN aF), (aw, kcI cI 2179 fw), (av, kcI cI 400 g2), (an, kcI cI 10 g3), (ak, kcI cI 10 g4)] ∧ va_S A s.heap H locs ∧ lv_has ls 4 [(3, .int y7843), (2, .int r5757), (1, .int y5750), (0, .ref h)]) ((0 : Int32), g7180) ⟨(by have q0 : cN (0 : Int32) = 0 := (by decide); rw [q0]; exact inW_new (tW_in hX13_0 (by have q1 := k5756; unfold Rg at q1; omega)) (by rw [← (cl_of (k := cN y5750) k5756 (by decide) (by simp only [cN]; have q1 := k5756; unfold Rg at q1; omega))]; exact hg7180) (kc_pop k5758 k5756) (cn_le (leI c7176)) (cn_lt hX13_1 (by have q1 := k5756; unfold Rg at q1; omega)) (Or.inr ⟨cn_lt2 (by have q1 := (leI c7176); have q2 := neI c7179; omega) (by have q1 := k7177; unfold Rg at q1; omega), rfl⟩)), (by rw [← k11]; have q1 := k12; unfold Rg at q1; have q2 : (0 : Int32).toInt = 0 := (by decide); omega), (kC_eq rfl (kif_f (xF_lt c5753) (kLet_eq (k5760).symm (kif_t (leI c7176) (kif_f (neI c7179) (kLet_eq (ke_stL hg7180) rfl)))))), (rg_w (rg_lit (n := 0) (by decide)) (by decide)), hP.sub (ws' := [(aW, kcJ cJ 4096 g7180), (h, oX11 th aw ai ab ac hi re aP ta po en be de fa a5 sp av an ak x1 aW aC ag aT aN aF), (aw, kcI cI 2179 fw), (av, kcI cI 400 g2), (an, kcI cI 10 g3), (ak, kcI cI 10 g4)]) [0, 1, 2, 3, 4, 5] rfl, hD.sub (ws' := [(aW, kcJ cJ 4096 g7180), (h, oX11 th aw ai ab ac hi re aP ta po en be de fa a5 sp av an ak x1 aW aC ag aT aN aF), (aw, kcI cI 2179 fw), (av, kcI cI 400 g2), (an, kcI cI 10 g3), (ak, kcI cI 10 g4)]) [0, 1, 2, 3, 4, 5] (by decide) rfl, hS, lv_sub (l' := [(3, .int 0), (2, .int r5757), (1, .int y5750), (0, .ref h)]) hl [0, 1, 2, 3] rfl⟩ (fun u H locs ls hI ih7845 => ?_)
        clear hP hD hS hl
        obtain ⟨y7843, g7844⟩ := u
        obtain ⟨hX54_0, hX54_1, hF2, hy7843, hP, hD, hS, hl⟩ := hI
        have hP : va_P D vwCl [(aW, kcJ cJ 4096 g7844), (h, oX11 th aw ai ab ac hi re aP ta po en be de fa a5 sp av an ak x1 aW aC ag aT aN aF), (aw, kcI cI 2179 fw), (av, kcI cI 400 g2), (an, kcI cI 10 g3), (ak, kcI cI 10 g4)] H := hP
        have hD : va_D A [(aW, kcJ cJ 4096 g7844), (h, oX11 th aw ai ab ac hi re aP ta po en be de fa a5 sp av an ak x1 aW aC ag aT aN aF), (aw, kcI cI 2179 fw), (av, kcI cI 400 g2), (an, kcI cI 10 g3), (ak, kcI cI 10 g4)] := hD
        have hl : lv_has ls 4 [(3, .int y7843), (2, .int r5757), (1, .int y5750), (0, .ref h)] := hl
        refine lv_iload_n hx hb dX11_allWays_54 rfl (lv_at hl 0 rfl) ?_
        refine lv_aload_n hx hb dX11_allWays_55 rfl (lv_at hl 3 rfl) ?_
        refine kpurei (wc := [(h, oX11 th aw ai ab ac hi re aP ta po en be de fa a5 sp av an ak x1 aW aC ag aT aN aF), (aw, kcI cI 2179 fw)]) hP hD hS hA [1, 2] rfl (by decide) (fun hPc hDc hFc => va_runV (As := []) (rest := [.int y7843]) ⟨hx, hb, hml, hown, hts⟩ (r_shirts l D cI cJ cB cC h th aw ai ab ac hi re aP ta po en be de fa a5 sp av an ak x1 aW aC ag aT aN aF fw H.size H_fw_W) (cwV 0 hts gX11_allWays_X11_shirts rfl rfl rfl ⟨rfl, hdX11_shirts⟩ ⟨Nat.le_of_ble_eq_true rfl, Nat.le_of_ble_eq_true rfl⟩) ⟨kBlind, va_recv hK hPc (ci := 10) (q0 := 0) rfl rfl, fun U hU hW => ⟨rfl, by rw [hU], hN.warm hW, hE.pass hS hFc hW hU, by rw [hU]; exact hPc, va_K.moved hW.alike hK, hDc⟩⟩ rfl rfl hl.1 rfl (lv_room (Nat.le_of_ble_eq_true rfl)) dX11_allWays_56 ⟨Nat.le_of_ble_eq_true rfl, Nat.le_of_ble_eq_true rfl⟩) (fun r7846 u H locs hw hP hS => ?_)
        obtain ⟨k7847, k7848, k7849⟩ := hw
        obtain rfl : r10 = r7846 := k11.trans k7847.symm
        refine lv_icmp_ge (tgt := 116) hx hb dX11_allWays_59 (by decide) (fun c7850 => ?_) (fun c7850 => ?_)
        · skip
          obtain ⟨x7851, ex7851⟩ : ∃ y : Int32, y = y5750 + (-1) := ⟨_, rfl⟩
          refine lv_iinc (v := x7851) (lv' := [(1, .int x7851), (3, .int y7843), (2, .int r5757), (0, .ref h)]) hx hb dX11_allWays_116 hl (k := 2) rfl (by rw [ex7851]; rfl) (by decide) rfl (fun ls hl => ?_)
          have k7852 : Rg x7851 (-1) 4094 := rg_add ex7851 k5756 (rg_lit (n := -1) (by decide)) (by decide)
          refine lv_goto (tgt := 13) hx hb dX11_allWays_119 (by decide) ?_
          exact ih5752 (x7851, g7844) _ _ _ (by show ((x7851).toInt - (-1)).toNat < ((y5750).toInt - (-1)).toNat; exact mu_dn ex7851 k5756 k7852 (by decide)) ⟨(tW_out (tW_done hX54_0 (cn_to k5 (by decide)) (by rw [← k11]; exact cn_to k12 (by decide)) (cn_le hX54_1) (fun _ => Nat.le_antisymm (cn_le hX54_1) (cn_le (by have q1 := (leI c7850); rw [k11] at q1; exact q1)))) (ti_add (Y := -1) ex7851 k5756 (rg_lit (n := -1) (by decide)) (by decide) rfl (by decide))), (by have q1 := hX13_1; have q2 := (ti_add (Y := -1) ex7851 k5756 (rg_lit (n := -1) (by decide)) (by decide) rfl (by decide)); omega), (by have q1 := k5756; have q2 := (ti_add (Y := -1) ex7851 k5756 (rg_lit (n := -1) (by decide)) (by decide) rfl (by decide)); unfold Rg at q1; omega), (hF1.trans (kIter_go (hF2.trans (kIter_out (kC_eq rfl (kLet_eq (k7849).symm (kif_t (leI c7850) (kLet_eq (ti_add ex7851 k5756 (rg_lit (n := -1) (by decide)) (by decide) rfl rfl) rfl)))))))), (rg_w k7852 (by decide)), hP.sub (ws' := [(aW, kcJ cJ 4096 g7844), (h, oX11 th aw ai ab ac hi re aP ta po en be de fa a5 sp av an ak x1 aW aC ag aT aN aF), (aw, kcI cI 2179 fw), (av, kcI cI 400 g2), (an, kcI cI 10 g3), (ak, kcI cI 10 g4)]) [0, 1, 2, 3, 4, 5] rfl, hD.sub (ws' := [(aW, kcJ cJ 4096 g7844), (h, oX11 th aw ai ab ac hi re aP ta po en be de fa a5 sp av an ak x1 aW aC ag aT aN aF), (aw, kcI cI 2179 fw), (av, kcI cI 400 g2), (an, kcI cI 10 g3), (ak, kcI cI 10 g4)]) [0, 1, 2, 3, 4, 5] (by decide) rfl, hS, lv_sub (l' := [(1, .int x7851), (0, .ref h)]) hl [0, 3] rfl⟩
        · skip
          have k7853 : Rg y7843 0 11 := rg_l1 (nleI c7850) hy7843 k12 (by decide)
          have k7854 : Rg r10 1 12 := rg_l2 (nleI c7850) hy7843 k12 (by decide)
          refine lv_iload_n hx hb dX11_allWays_62 rfl (lv_at hl 1 rfl) ?_
          refine lv_aload_n hx hb dX11_allWays_63 rfl (lv_at hl 3 rfl) ?_
          refine va_get (D := D) (ci := 10) (v := .int x1) (C := RX11) (T := TX11) (N := 26) hx hb hts iG_X11 hown hK hP 1 rfl rfl 19 (by decide) (hts _ w40_7) (fun _ h9 => h9) rfl dX11_allWays_64 ?_
          refine lv_icmp_ge (tgt := 116) hx hb dX11_allWays_67 (by decide) (fun c7855 => ?_) (fun c7855 => ?_)
          · skip
            obtain ⟨x7856, ex7856⟩ : ∃ y : Int32, y = y5750 + (-1) := ⟨_, rfl⟩
            refine lv_iinc (v := x7856) (lv' := [(1, .int x7856), (3, .int y7843), (2, .int r5757), (0, .ref h)]) hx hb dX11_allWays_116 hl (k := 2) rfl (by rw [ex7856]; rfl) (by decide) rfl (fun ls hl => ?_)
            have k7857 : Rg x7856 (-1) 4094 := rg_add ex7856 k5756 (rg_lit (n := -1) (by decide)) (by decide)
            refine lv_goto (tgt := 13) hx hb dX11_allWays_119 (by decide) ?_
            exact ih5752 (x7856, g7844) _ _ _ (by show ((x7856).toInt - (-1)).toNat < ((y5750).toInt - (-1)).toNat; exact mu_dn ex7856 k5756 k7857 (by decide)) ⟨(tW_out (tW_done hX54_0 (cn_to k5 (by decide)) (by rw [← k11]; exact cn_to k7854 (by decide)) (cn_le hX54_1) (fun q => absurd q (Nat.not_lt.mpr (cn_le (leI c7855))))) (ti_add (Y := -1) ex7856 k5756 (rg_lit (n := -1) (by decide)) (by decide) rfl (by decide))), (by have q1 := hX13_1; have q2 := (ti_add (Y := -1) ex7856 k5756 (rg_lit (n := -1) (by decide)) (by decide) rfl (by decide)); omega), (by have q1 := k5756; have q2 := (ti_add (Y := -1) ex7856 k5756 (rg_lit (n := -1) (by decide)) (by decide) rfl (by decide)); unfold Rg at q1; omega), (hF1.trans (kIter_go (hF2.trans (kIter_out (kC_eq rfl (kLet_eq (k7849).symm (kif_f (xF_le c7850) (kif_t (leI c7855) (kLet_eq (ti_add ex7856 k5756 (rg_lit (n := -1) (by decide)) (by decide) rfl rfl) rfl))))))))), (rg_w k7857 (by decide)), hP.sub (ws' := [(aW, kcJ cJ 4096 g7844), (h, oX11 th aw ai ab ac hi re aP ta po en be de fa a5 sp av an ak x1 aW aC ag aT aN aF), (aw, kcI cI 2179 fw), (av, kcI cI 400 g2), (an, kcI cI 10 g3), (ak, kcI cI 10 g4)]) [0, 1, 2, 3, 4, 5] rfl, hD.sub (ws' := [(aW, kcJ cJ 4096 g7844), (h, oX11 th aw ai ab ac hi re aP ta po en be de fa a5 sp av an ak x1 aW aC ag aT aN aF), (aw, kcI cI 2179 fw), (av, kcI cI 400 g2), (an, kcI cI 10 g3), (ak, kcI cI 10 g4)]) [0, 1, 2, 3, 4, 5] (by decide) rfl, hS, lv_sub (l' := [(1, .int x7856), (0, .ref h)]) hl [0, 3] rfl⟩
          · skip
            have k7858 : Rg r5757 0 9 := rg_l1 (nleI c7855) k7177 k5 (by decide)
            have k7859 : Rg x1 1 10 := rg_l2 (nleI c7855) k7177 k5 (by decide)
            refine lv_aload_n hx hb dX11_allWays_70 rfl (lv_at hl 3 rfl) ?_
            refine va_get (D := D) (ci := 10) (v := .ref ak) (C := RX11) (T := TX11) (N := 26) hx hb hts iG_X11 hown hK hP 1 rfl rfl 18 (by decide) (hts _ w5_13) (fun _ h9 => h9) rfl dX11_allWays_71 ?_
            refine lv_iload_n hx hb dX11_allWays_74 rfl (lv_at hl 1 rfl) ?_
            refine va_iald hx hb hK hP 5 0 rfl rfl (rg_in k7858 (by decide)) dX11_allWays_75 ?_
            refine lv_topi (fun x7860 ex7860 => ?_)
            have k7861 : Rg x7860 0 4095 := wK_rd k7 ex7860
            refine lv_iload_n hx hb dX11_allWays_76 rfl (lv_at hl 0 rfl) ?_
            refine kpurei (wc := []) hP hD hS hA [] rfl (by decide) (fun hPc hDc hFc => va_runS (As := [.int x7860, .int y7843]) (rest := []) ⟨hx, hb, hml, hown, hts⟩ (r_hasx l D cI cJ cB cC x7860 y7843 H.size) (va_cwS 2 hts gX11_allWays_X11_has rfl rfl rfl hdX11_has ⟨Nat.le_of_ble_eq_true rfl, Nat.le_of_ble_eq_true rfl⟩) ⟨kBlind, fun U hU hW => ⟨rfl, by rw [hU], hN.warm hW, hE.pass hS hFc hW hU, by rw [hU]; exact hPc, va_K.moved hW.alike hK, hDc⟩⟩ rfl rfl hl.1 rfl (lv_room (Nat.le_of_ble_eq_true rfl)) dX11_allWays_77 ⟨Nat.le_of_ble_eq_true rfl, Nat.le_of_ble_eq_true rfl⟩) (fun r7862 u H locs hw hP hS => ?_)
            obtain ⟨k7863, k7864, k7865⟩ := hw
            refine lv_if_eq (tgt := 110) hx hb dX11_allWays_80 (by decide) (fun c7884 => ?_) (fun c7884 => ?_)
            · skip
              have k7885 : Rg r7862 0 0 := rg_q1 (eqI c7884) k7864 (rg_lit (n := 0) (by decide)) (by decide)
              obtain ⟨x7886, ex7886⟩ : ∃ y : Int32, y = y7843 + 1 := ⟨_, rfl⟩
              refine lv_iinc (v := x7886) (lv' := [(3, .int x7886), (2, .int r5757), (1, .int y5750), (0, .ref h)]) hx hb dX11_allWays_110 hl (k := 0) rfl (by rw [ex7886]; rfl) (by decide) rfl (fun ls hl => ?_)
              have k7887 : Rg x7886 1 12 := rg_add ex7886 k7853 (rg_lit (n := 1) (by decide)) (by decide)
              refine lv_goto (tgt := 54) hx hb dX11_allWays_113 (by decide) ?_
              exact ih7845 (x7886, g7844) _ _ _ (by show (12 - (x7886).toInt).toNat < (12 - (y7843).toInt).toNat; exact mu_up ex7886 k7853 k7887 (by decide)) ⟨(by rw [(s1_cN (by have q1 := k7853; unfold Rg at q1; omega) (ti_add (Y := 1) ex7886 k7853 (rg_lit (n := 1) (by decide)) (by decide) rfl (by decide)))]; exact inW_skip hX54_0), (by have q1 := (by have q1 := (nleI c7850); rw [k11] at q1; exact q1); have q2 := (ti_add (Y := 1) ex7886 k7853 (rg_lit (n := 1) (by decide)) (by decide) rfl (by decide)); omega), (hF2.trans (kIter_go (kC_eq rfl (kLet_eq (k7849).symm (kif_f (xF_le c7850) (kif_f (xF_le c7855) (kLet_eq (ke_ld ex7860) (kLet_eq (k7865).symm (kif_t (eqI c7884) (kLet_eq (ti_add ex7886 k7853 (rg_lit (n := 1) (by decide)) (by decide) rfl rfl) rfl)))))))))), (rg_w k7887 (by decide)), hP.sub (ws' := [(aW, kcJ cJ 4096 g7844), (h, oX11 th aw ai ab ac hi re aP ta po en be de fa a5 sp av an ak x1 aW aC ag aT aN aF), (aw, kcI cI 2179 fw), (av, kcI cI 400 g2), (an, kcI cI 10 g3), (ak, kcI cI 10 g4)]) [0, 1, 2, 3, 4, 5] rfl, hD.sub (ws' := [(aW, kcJ cJ 4096 g7844), (h, oX11 th aw ai ab ac hi re aP ta po en be de fa a5 sp av an ak x1 aW aC ag aT aN aF), (aw, kcI cI 2179 fw), (av, kcI cI 400 g2), (an, kcI cI 10 g3), (ak, kcI cI 10 g4)]) [0, 1, 2, 3, 4, 5] (by decide) rfl, hS, lv_sub (l' := [(3, .int x7886), (2, .int r5757), (1, .int y5750), (0, .ref h)]) hl [0, 1, 2, 3] rfl⟩
            · skip
              have k7888 : Rg r7862 1 1 := rg_n1 (neI c7884) k7864 (rg_lit (n := 0) (by decide)) (by decide)
              refine lv_iload_n hx hb dX11_allWays_83 rfl (lv_at hl 2 rfl) ?_
              refine lv_iload_n hx hb dX11_allWays_84 rfl (lv_at hl 0 rfl) ?_
              refine kpurei (wc := []) hP hD hS hA [] rfl (by decide) (fun hPc hDc hFc => va_runS (As := [.int y5750, .int y7843]) (rest := []) ⟨hx, hb, hml, hown, hts⟩ (r_hasx l D cI cJ cB cC y5750 y7843 H.size) (va_cwS 2 hts gX11_allWays_X11_has rfl rfl rfl hdX11_has ⟨Nat.le_of_ble_eq_true rfl, Nat.le_of_ble_eq_true rfl⟩) ⟨kBlind, fun U hU hW => ⟨rfl, by rw [hU], hN.warm hW, hE.pass hS hFc hW hU, by rw [hU]; exact hPc, va_K.moved hW.alike hK, hDc⟩⟩ rfl rfl hl.1 rfl (lv_room (Nat.le_of_ble_eq_true rfl)) dX11_allWays_85 ⟨Nat.le_of_ble_eq_true rfl, Nat.le_of_ble_eq_true rfl⟩) (fun r7889 u H locs hw hP hS => ?_)
              obtain ⟨k7890, k7891, k7892⟩ := hw
              refine lv_if_ne (tgt := 110) hx hb dX11_allWays_88 (by decide) (fun c7893 => ?_) (fun c7893 => ?_)
              · skip
                have k7894 : Rg r7889 1 1 := rg_n1 (neI c7893) k7891 (rg_lit (n := 0) (by decide)) (by decide)
                obtain ⟨x7895, ex7895⟩ : ∃ y : Int32, y = y7843 + 1 := ⟨_, rfl⟩
                refine lv_iinc (v := x7895) (lv' := [(3, .int x7895), (2, .int r5757), (1, .int y5750), (0, .ref h)]) hx hb dX11_allWays_110 hl (k := 0) rfl (by rw [ex7895]; rfl) (by decide) rfl (fun ls hl => ?_)
                have k7896 : Rg x7895 1 12 := rg_add ex7895 k7853 (rg_lit (n := 1) (by decide)) (by decide)
                refine lv_goto (tgt := 54) hx hb dX11_allWays_113 (by decide) ?_
                exact ih7845 (x7895, g7844) _ _ _ (by show (12 - (x7895).toInt).toNat < (12 - (y7843).toInt).toNat; exact mu_up ex7895 k7853 k7896 (by decide)) ⟨(by rw [(s1_cN (by have q1 := k7853; unfold Rg at q1; omega) (ti_add (Y := 1) ex7895 k7853 (rg_lit (n := 1) (by decide)) (by decide) rfl (by decide)))]; exact inW_skip hX54_0), (by have q1 := (by have q1 := (nleI c7850); rw [k11] at q1; exact q1); have q2 := (ti_add (Y := 1) ex7895 k7853 (rg_lit (n := 1) (by decide)) (by decide) rfl (by decide)); omega), (hF2.trans (kIter_go (kC_eq rfl (kLet_eq (k7849).symm (kif_f (xF_le c7850) (kif_f (xF_le c7855) (kLet_eq (ke_ld ex7860) (kLet_eq (k7865).symm (kif_f (neI c7884) (kLet_eq (k7892).symm (kif_f (neI c7893) (kLet_eq (ti_add ex7895 k7853 (rg_lit (n := 1) (by decide)) (by decide) rfl rfl) rfl)))))))))))), (rg_w k7896 (by decide)), hP.sub (ws' := [(aW, kcJ cJ 4096 g7844), (h, oX11 th aw ai ab ac hi re aP ta po en be de fa a5 sp av an ak x1 aW aC ag aT aN aF), (aw, kcI cI 2179 fw), (av, kcI cI 400 g2), (an, kcI cI 10 g3), (ak, kcI cI 10 g4)]) [0, 1, 2, 3, 4, 5] rfl, hD.sub (ws' := [(aW, kcJ cJ 4096 g7844), (h, oX11 th aw ai ab ac hi re aP ta po en be de fa a5 sp av an ak x1 aW aC ag aT aN aF), (aw, kcI cI 2179 fw), (av, kcI cI 400 g2), (an, kcI cI 10 g3), (ak, kcI cI 10 g4)]) [0, 1, 2, 3, 4, 5] (by decide) rfl, hS, lv_sub (l' := [(3, .int x7895), (2, .int r5757), (1, .int y5750), (0, .ref h)]) hl [0, 1, 2, 3] rfl⟩
              · skip
                have k7897 : Rg r7889 0 0 := rg_q1 (eqI c7893) k7891 (rg_lit (n := 0) (by decide)) (by decide)
                refine lv_aload_n hx hb dX11_allWays_91 rfl (lv_at hl 3 rfl) ?_
                refine va_get (D := D) (ci := 10) (v := .ref aW) (C := RX11) (T := TX11) (N := 26) hx hb hts iG_X11 hown hK hP 1 rfl rfl 20 (by decide) (hts _ w5_14) (fun _ h9 => h9) rfl dX11_allWays_92 ?_
                refine lv_iload_n hx hb dX11_allWays_95 rfl (lv_at hl 2 rfl) ?_
                refine lv_dup2_11 hx hb dX11_allWays_96 rfl rfl ?_
                refine va_lald hx hb hK hP 0 1 rfl rfl (rg_in k5756 (by decide)) dX11_allWays_97 ?_
                refine lv_topl (fun x7898 ex7898 => ?_)
                refine lv_aload_n hx hb dX11_allWays_98 rfl (lv_at hl 3 rfl) ?_
                refine va_get (D := D) (ci := 10) (v := .ref aW) (C := RX11) (T := TX11) (N := 26) hx hb hts iG_X11 hown hK hP 1 rfl rfl 20 (by decide) (hts _ w5_14) (fun _ h9 => h9) rfl dX11_allWays_99 ?_
                refine lv_iload_n hx hb dX11_allWays_102 rfl (lv_at hl 2 rfl) ?_
                refine lv_iconst (v := 1) hx hb dX11_allWays_103 (by decide) ?_
                refine lv_iload_n hx hb dX11_allWays_104 rfl (lv_at hl 0 rfl) ?_
                refine lv_ishl hx hb dX11_allWays_105 ?_
                refine lv_topi (fun x7899 ex7899 => ?_)
                have k7900 : Rg x7899 1 2048 := rg_shl1 11 ex7899 k7853 (by decide)
                refine lv_ior hx hb dX11_allWays_106 ?_
                refine lv_topi (fun x7901 ex7901 => ?_)
                have k7902 : Rg x7901 0 4095 := rg_or 12 ex7901 k5756 k7900 (by decide)
                refine va_lald hx hb hK hP 0 1 rfl rfl (rg_in k7902 (by decide)) dX11_allWays_107 ?_
                refine lv_topl (fun x7903 ex7903 => ?_)
                refine lv_ladd hx hb dX11_allWays_108 ?_
                refine lv_topl (fun x7904 ex7904 => ?_)
                refine va_last hx hb hK hP hD hS 0 1 rfl rfl (rg_in k5756 (by decide)) dX11_allWays_109 (fun H locs hP hD hS => ?_)
                have hP : va_P D vwCl [(aW, kcJ cJ 4096 (vp_updL g7844 y5750.toNatClampNeg x7904)), (h, oX11 th aw ai ab ac hi re aP ta po en be de fa a5 sp av an ak x1 aW aC ag aT aN aF), (aw, kcI cI 2179 fw), (av, kcI cI 400 g2), (an, kcI cI 10 g3), (ak, kcI cI 10 g4)] H := hP
                have hD : va_D A [(aW, kcJ cJ 4096 (vp_updL g7844 y5750.toNatClampNeg x7904)), (h, oX11 th aw ai ab ac hi re aP ta po en be de fa a5 sp av an ak x1 aW aC ag aT aN aF), (aw, kcI cI 2179 fw), (av, kcI cI 400 g2), (an, kcI cI 10 g3), (ak, kcI cI 10 g4)] := hD
                generalize hg7905 : (vp_updL g7844 y5750.toNatClampNeg x7904) = g7905 at hP hD
                obtain ⟨x7906, ex7906⟩ : ∃ y : Int32, y = y7843 + 1 := ⟨_, rfl⟩
                refine lv_iinc (v := x7906) (lv' := [(3, .int x7906), (2, .int r5757), (1, .int y5750), (0, .ref h)]) hx hb dX11_allWays_110 hl (k := 0) rfl (by rw [ex7906]; rfl) (by decide) rfl (fun ls hl => ?_)
                have k7907 : Rg x7906 1 12 := rg_add ex7906 k7853 (rg_lit (n := 1) (by decide)) (by decide)
                refine lv_goto (tgt := 54) hx hb dX11_allWays_113 (by decide) ?_
                exact ih7845 (x7906, g7905) _ _ _ (by show (12 - (x7906).toInt).toNat < (12 - (y7843).toInt).toNat; exact mu_up ex7906 k7853 k7907 (by decide)) ⟨(by rw [(s1_cN (by have q1 := k7853; unfold Rg at q1; omega) (ti_add (Y := 1) ex7906 k7853 (rg_lit (n := 1) (by decide)) (by decide) rfl (by decide)))]; exact inW_add (v := x7904) hX54_0 (cn_lt2 (nleI c7855) (by have q1 := k7858; unfold Rg at q1; omega)) (cn_to k7859 (by decide)) (cn_lt2 (by have q1 := (nleI c7850); rw [k11] at q1; exact q1) (by have q1 := k7853; unfold Rg at q1; omega)) (by rw [← k11]; exact cn_to k7854 (by decide)) (elig_of ex7860 (cl_of (k := cN r5757) k7858 (by decide) (by simp only [cN]; have q1 := k7858; unfold Rg at q1; omega)) k7863 k7861 (rg_w k7853 (by decide)) c7884 k7890 k5756 (Int32.toInt_inj.mp (eqI c7893))) (by rw [ex7904, ex7898, ex7903, (cl_of (k := cN y5750) k5756 (by decide) (by simp only [cN]; have q1 := k5756; unfold Rg at q1; omega)), (cl_of (k := cN x7901) k7902 (by decide) (by simp only [cN]; have q1 := k7902; unfold Rg at q1; omega)), (or_bit ex7899 ex7901 k5756 (rg_w k7853 (by decide))).1]) (by rw [← (cl_of (k := cN y5750) k5756 (by decide) (by simp only [cN]; have q1 := k5756; unfold Rg at q1; omega))]; exact hg7905)), (by have q1 := (by have q1 := (nleI c7850); rw [k11] at q1; exact q1); have q2 := (ti_add (Y := 1) ex7906 k7853 (rg_lit (n := 1) (by decide)) (by decide) rfl (by decide)); omega), (hF2.trans (kIter_go (kC_eq rfl (kLet_eq (k7849).symm (kif_f (xF_le c7850) (kif_f (xF_le c7855) (kLet_eq (ke_ld ex7860) (kLet_eq (k7865).symm (kif_f (neI c7884) (kLet_eq (k7892).symm (kif_t (eqI c7893) (kLet_eq (ke_ldL ex7898) (kLet_eq (ke_shl ex7899) (kLet_eq (ke_or ex7901) (kLet_eq (ke_ldL ex7903) (kLet_eq ex7904 (kLet_eq (ke_stL hg7905) (kLet_eq (ti_add ex7906 k7853 (rg_lit (n := 1) (by decide)) (by decide) rfl rfl) rfl)))))))))))))))))), (rg_w k7907 (by decide)), hP.sub (ws' := [(aW, kcJ cJ 4096 g7905), (h, oX11 th aw ai ab ac hi re aP ta po en be de fa a5 sp av an ak x1 aW aC ag aT aN aF), (aw, kcI cI 2179 fw), (av, kcI cI 400 g2), (an, kcI cI 10 g3), (ak, kcI cI 10 g4)]) [0, 1, 2, 3, 4, 5] rfl, hD.sub (ws' := [(aW, kcJ cJ 4096 g7905), (h, oX11 th aw ai ab ac hi re aP ta po en be de fa a5 sp av an ak x1 aW aC ag aT aN aF), (aw, kcI cI 2179 fw), (av, kcI cI 400 g2), (an, kcI cI 10 g3), (ak, kcI cI 10 g4)]) [0, 1, 2, 3, 4, 5] (by decide) rfl, hS, lv_sub (l' := [(3, .int x7906), (2, .int r5757), (1, .int y5750), (0, .ref h)]) hl [0, 1, 2, 3] rfl⟩
      · skip
        refine lv_lconst (v := 1) hx hb dX11_allWays_46 (by decide) ?_
        refine lv_goto (tgt := 51) hx hb dX11_allWays_47 (by decide) ?_
        refine va_last hx hb hK hP hD hS 0 1 rfl rfl (rg_in k5756 (by decide)) dX11_allWays_51 (fun H locs hP hD hS => ?_)
        have hP : va_P D vwCl [(aW, kcJ cJ 4096 (vp_updL g5751 y5750.toNatClampNeg 1)), (h, oX11 th aw ai ab ac hi re aP ta po en be de fa a5 sp av an ak x1 aW aC ag aT aN aF), (aw, kcI cI 2179 fw), (av, kcI cI 400 g2), (an, kcI cI 10 g3), (ak, kcI cI 10 g4)] H := hP
        have hD : va_D A [(aW, kcJ cJ 4096 (vp_updL g5751 y5750.toNatClampNeg 1)), (h, oX11 th aw ai ab ac hi re aP ta po en be de fa a5 sp av an ak x1 aW aC ag aT aN aF), (aw, kcI cI 2179 fw), (av, kcI cI 400 g2), (an, kcI cI 10 g3), (ak, kcI cI 10 g4)] := hD
        generalize hg7908 : (vp_updL g5751 y5750.toNatClampNeg 1) = g7908 at hP hD
        refine lv_iconst (v := 0) hx hb dX11_allWays_52 (by decide) ?_
        refine lv_istore_n (lv' := [(3, .int 0), (2, .int r5757), (1, .int y5750), (0, .ref h)]) hx hb dX11_allWays_53 rfl hl (by decide) rfl (fun ls hl => ?_)
        refine k_loop (hd := 54) (fun (u : Int32 × (Nat → Int64)) => match u with | (y8571, g8572) => (12 - (y8571).toInt).toNat) (fun (u : Int32 × (Nat → Int64)) (H : Heap) (locs : List Loc) (ls : Array Slot) => match u with | (y8571, g8572) => (inW g8572 g4 (cN x1) (cN (fw 1)) (cN y5750) (cN r5757) (cN y8571)) ∧ ((y8571 : Int32).toInt ≤ (fw 1).toInt) ∧ (F_r_allWaysx_l1_s (gT fw) x1.toInt (gT g2) (gT g3) (gT g4) r10.toInt (y5750.toInt, g5751) = F_r_allWaysx_l3 (gT fw) x1.toInt (gT g4) r10.toInt y5750.toInt r5757.toInt (y8571.toInt, g8572)) ∧ Rg y8571 0 12 ∧ va_P D vwCl [(aW, kcJ cJ 4096 g8572), (h, oX11 th aw ai ab ac hi re aP ta po en be de fa a5 sp av an ak x1 aW aC ag aT aN aF), (aw, kcI cI 2179 fw), (av, kcI cI 400 g2), (an, kcI cI 10 g3), (ak, kcI cI 10 g4)] H ∧ va_D A [(aW, kcJ cJ 4096 g8572), (h, oX11 th aw ai ab ac hi re aP ta po en be de fa a5 sp av an ak x1 aW aC ag aT aN aF), (aw, kcI cI 2179 fw), (av, kcI cI 400 g2), (an, kcI cI 10 g3), (ak, kcI cI 10 g4)] ∧ va_S A s.heap H locs ∧ lv_has ls 4 [(3, .int y8571), (2, .int r5757), (1, .int y5750), (0, .ref h)]) ((0 : Int32), g7908) ⟨(by have q0 : cN (0 : Int32) = 0 := (by decide); rw [q0]; exact inW_new (tW_in hX13_0 (by have q1 := k5756; unfold Rg at q1; omega)) (by rw [← (cl_of (k := cN y5750) k5756 (by decide) (by simp only [cN]; have q1 := k5756; unfold Rg at q1; omega))]; exact hg7908) (kc_pop k5758 k5756) (cn_le (leI c7176)) (cn_lt hX13_1 (by have q1 := k5756; unfold Rg at q1; omega)) (Or.inl ⟨cn_eq (eqI c7179), rfl⟩)), (by rw [← k11]; have q1 := k12; unfold Rg at q1; have q2 : (0 : Int32).toInt = 0 := (by decide); omega), (kC_eq rfl (kif_f (xF_lt c5753) (kLet_eq (k5760).symm (kif_t (leI c7176) (kif_t (eqI c7179) (kLet_eq (ke_stL hg7908) rfl)))))), (rg_w (rg_lit (n := 0) (by decide)) (by decide)), hP.sub (ws' := [(aW, kcJ cJ 4096 g7908), (h, oX11 th aw ai ab ac hi re aP ta po en be de fa a5 sp av an ak x1 aW aC ag aT aN aF), (aw, kcI cI 2179 fw), (av, kcI cI 400 g2), (an, kcI cI 10 g3), (ak, kcI cI 10 g4)]) [0, 1, 2, 3, 4, 5] rfl, hD.sub (ws' := [(aW, kcJ cJ 4096 g7908), (h, oX11 th aw ai ab ac hi re aP ta po en be de fa a5 sp av an ak x1 aW aC ag aT aN aF), (aw, kcI cI 2179 fw), (av, kcI cI 400 g2), (an, kcI cI 10 g3), (ak, kcI cI 10 g4)]) [0, 1, 2, 3, 4, 5] (by decide) rfl, hS, lv_sub (l' := [(3, .int 0), (2, .int r5757), (1, .int y5750), (0, .ref h)]) hl [0, 1, 2, 3] rfl⟩ (fun u H locs ls hI ih8573 => ?_)
        clear hP hD hS hl
        obtain ⟨y8571, g8572⟩ := u
        obtain ⟨hX54_0, hX54_1, hF3, hy8571, hP, hD, hS, hl⟩ := hI
        have hP : va_P D vwCl [(aW, kcJ cJ 4096 g8572), (h, oX11 th aw ai ab ac hi re aP ta po en be de fa a5 sp av an ak x1 aW aC ag aT aN aF), (aw, kcI cI 2179 fw), (av, kcI cI 400 g2), (an, kcI cI 10 g3), (ak, kcI cI 10 g4)] H := hP
        have hD : va_D A [(aW, kcJ cJ 4096 g8572), (h, oX11 th aw ai ab ac hi re aP ta po en be de fa a5 sp av an ak x1 aW aC ag aT aN aF), (aw, kcI cI 2179 fw), (av, kcI cI 400 g2), (an, kcI cI 10 g3), (ak, kcI cI 10 g4)] := hD
        have hl : lv_has ls 4 [(3, .int y8571), (2, .int r5757), (1, .int y5750), (0, .ref h)] := hl
        refine lv_iload_n hx hb dX11_allWays_54 rfl (lv_at hl 0 rfl) ?_
        refine lv_aload_n hx hb dX11_allWays_55 rfl (lv_at hl 3 rfl) ?_
        refine kpurei (wc := [(h, oX11 th aw ai ab ac hi re aP ta po en be de fa a5 sp av an ak x1 aW aC ag aT aN aF), (aw, kcI cI 2179 fw)]) hP hD hS hA [1, 2] rfl (by decide) (fun hPc hDc hFc => va_runV (As := []) (rest := [.int y8571]) ⟨hx, hb, hml, hown, hts⟩ (r_shirts l D cI cJ cB cC h th aw ai ab ac hi re aP ta po en be de fa a5 sp av an ak x1 aW aC ag aT aN aF fw H.size H_fw_W) (cwV 0 hts gX11_allWays_X11_shirts rfl rfl rfl ⟨rfl, hdX11_shirts⟩ ⟨Nat.le_of_ble_eq_true rfl, Nat.le_of_ble_eq_true rfl⟩) ⟨kBlind, va_recv hK hPc (ci := 10) (q0 := 0) rfl rfl, fun U hU hW => ⟨rfl, by rw [hU], hN.warm hW, hE.pass hS hFc hW hU, by rw [hU]; exact hPc, va_K.moved hW.alike hK, hDc⟩⟩ rfl rfl hl.1 rfl (lv_room (Nat.le_of_ble_eq_true rfl)) dX11_allWays_56 ⟨Nat.le_of_ble_eq_true rfl, Nat.le_of_ble_eq_true rfl⟩) (fun r8574 u H locs hw hP hS => ?_)
        obtain ⟨k8575, k8576, k8577⟩ := hw
        obtain rfl : r10 = r8574 := k11.trans k8575.symm
        refine lv_icmp_ge (tgt := 116) hx hb dX11_allWays_59 (by decide) (fun c8578 => ?_) (fun c8578 => ?_)
        · skip
          obtain ⟨x8579, ex8579⟩ : ∃ y : Int32, y = y5750 + (-1) := ⟨_, rfl⟩
          refine lv_iinc (v := x8579) (lv' := [(1, .int x8579), (3, .int y8571), (2, .int r5757), (0, .ref h)]) hx hb dX11_allWays_116 hl (k := 2) rfl (by rw [ex8579]; rfl) (by decide) rfl (fun ls hl => ?_)
          have k8580 : Rg x8579 (-1) 4094 := rg_add ex8579 k5756 (rg_lit (n := -1) (by decide)) (by decide)
          refine lv_goto (tgt := 13) hx hb dX11_allWays_119 (by decide) ?_
          exact ih5752 (x8579, g8572) _ _ _ (by show ((x8579).toInt - (-1)).toNat < ((y5750).toInt - (-1)).toNat; exact mu_dn ex8579 k5756 k8580 (by decide)) ⟨(tW_out (tW_done hX54_0 (cn_to k5 (by decide)) (by rw [← k11]; exact cn_to k12 (by decide)) (cn_le hX54_1) (fun _ => Nat.le_antisymm (cn_le hX54_1) (cn_le (by have q1 := (leI c8578); rw [k11] at q1; exact q1)))) (ti_add (Y := -1) ex8579 k5756 (rg_lit (n := -1) (by decide)) (by decide) rfl (by decide))), (by have q1 := hX13_1; have q2 := (ti_add (Y := -1) ex8579 k5756 (rg_lit (n := -1) (by decide)) (by decide) rfl (by decide)); omega), (by have q1 := k5756; have q2 := (ti_add (Y := -1) ex8579 k5756 (rg_lit (n := -1) (by decide)) (by decide) rfl (by decide)); unfold Rg at q1; omega), (hF1.trans (kIter_go (hF3.trans (kIter_out (kC_eq rfl (kLet_eq (k8577).symm (kif_t (leI c8578) (kLet_eq (ti_add ex8579 k5756 (rg_lit (n := -1) (by decide)) (by decide) rfl rfl) rfl)))))))), (rg_w k8580 (by decide)), hP.sub (ws' := [(aW, kcJ cJ 4096 g8572), (h, oX11 th aw ai ab ac hi re aP ta po en be de fa a5 sp av an ak x1 aW aC ag aT aN aF), (aw, kcI cI 2179 fw), (av, kcI cI 400 g2), (an, kcI cI 10 g3), (ak, kcI cI 10 g4)]) [0, 1, 2, 3, 4, 5] rfl, hD.sub (ws' := [(aW, kcJ cJ 4096 g8572), (h, oX11 th aw ai ab ac hi re aP ta po en be de fa a5 sp av an ak x1 aW aC ag aT aN aF), (aw, kcI cI 2179 fw), (av, kcI cI 400 g2), (an, kcI cI 10 g3), (ak, kcI cI 10 g4)]) [0, 1, 2, 3, 4, 5] (by decide) rfl, hS, lv_sub (l' := [(1, .int x8579), (0, .ref h)]) hl [0, 3] rfl⟩
        · skip
          have k8581 : Rg y8571 0 11 := rg_l1 (nleI c8578) hy8571 k12 (by decide)
          have k8582 : Rg r10 1 12 := rg_l2 (nleI c8578) hy8571 k12 (by decide)
          refine lv_iload_n hx hb dX11_allWays_62 rfl (lv_at hl 1 rfl) ?_
          refine lv_aload_n hx hb dX11_allWays_63 rfl (lv_at hl 3 rfl) ?_
          refine va_get (D := D) (ci := 10) (v := .int x1) (C := RX11) (T := TX11) (N := 26) hx hb hts iG_X11 hown hK hP 1 rfl rfl 19 (by decide) (hts _ w40_7) (fun _ h9 => h9) rfl dX11_allWays_64 ?_
          refine lv_icmp_ge (tgt := 116) hx hb dX11_allWays_67 (by decide) (fun c8583 => ?_) (fun c8583 => ?_)
          · skip
            obtain ⟨x8584, ex8584⟩ : ∃ y : Int32, y = y5750 + (-1) := ⟨_, rfl⟩
            refine lv_iinc (v := x8584) (lv' := [(1, .int x8584), (3, .int y8571), (2, .int r5757), (0, .ref h)]) hx hb dX11_allWays_116 hl (k := 2) rfl (by rw [ex8584]; rfl) (by decide) rfl (fun ls hl => ?_)
            have k8585 : Rg x8584 (-1) 4094 := rg_add ex8584 k5756 (rg_lit (n := -1) (by decide)) (by decide)
            refine lv_goto (tgt := 13) hx hb dX11_allWays_119 (by decide) ?_
            exact ih5752 (x8584, g8572) _ _ _ (by show ((x8584).toInt - (-1)).toNat < ((y5750).toInt - (-1)).toNat; exact mu_dn ex8584 k5756 k8585 (by decide)) ⟨(tW_out (tW_done hX54_0 (cn_to k5 (by decide)) (by rw [← k11]; exact cn_to k8582 (by decide)) (cn_le hX54_1) (fun q => absurd q (Nat.not_lt.mpr (cn_le (leI c8583))))) (ti_add (Y := -1) ex8584 k5756 (rg_lit (n := -1) (by decide)) (by decide) rfl (by decide))), (by have q1 := hX13_1; have q2 := (ti_add (Y := -1) ex8584 k5756 (rg_lit (n := -1) (by decide)) (by decide) rfl (by decide)); omega), (by have q1 := k5756; have q2 := (ti_add (Y := -1) ex8584 k5756 (rg_lit (n := -1) (by decide)) (by decide) rfl (by decide)); unfold Rg at q1; omega), (hF1.trans (kIter_go (hF3.trans (kIter_out (kC_eq rfl (kLet_eq (k8577).symm (kif_f (xF_le c8578) (kif_t (leI c8583) (kLet_eq (ti_add ex8584 k5756 (rg_lit (n := -1) (by decide)) (by decide) rfl rfl) rfl))))))))), (rg_w k8585 (by decide)), hP.sub (ws' := [(aW, kcJ cJ 4096 g8572), (h, oX11 th aw ai ab ac hi re aP ta po en be de fa a5 sp av an ak x1 aW aC ag aT aN aF), (aw, kcI cI 2179 fw), (av, kcI cI 400 g2), (an, kcI cI 10 g3), (ak, kcI cI 10 g4)]) [0, 1, 2, 3, 4, 5] rfl, hD.sub (ws' := [(aW, kcJ cJ 4096 g8572), (h, oX11 th aw ai ab ac hi re aP ta po en be de fa a5 sp av an ak x1 aW aC ag aT aN aF), (aw, kcI cI 2179 fw), (av, kcI cI 400 g2), (an, kcI cI 10 g3), (ak, kcI cI 10 g4)]) [0, 1, 2, 3, 4, 5] (by decide) rfl, hS, lv_sub (l' := [(1, .int x8584), (0, .ref h)]) hl [0, 3] rfl⟩
          · skip
            have k8586 : Rg r5757 0 9 := rg_l1 (nleI c8583) k7177 k5 (by decide)
            have k8587 : Rg x1 1 10 := rg_l2 (nleI c8583) k7177 k5 (by decide)
            refine lv_aload_n hx hb dX11_allWays_70 rfl (lv_at hl 3 rfl) ?_
            refine va_get (D := D) (ci := 10) (v := .ref ak) (C := RX11) (T := TX11) (N := 26) hx hb hts iG_X11 hown hK hP 1 rfl rfl 18 (by decide) (hts _ w5_13) (fun _ h9 => h9) rfl dX11_allWays_71 ?_
            refine lv_iload_n hx hb dX11_allWays_74 rfl (lv_at hl 1 rfl) ?_
            refine va_iald hx hb hK hP 5 0 rfl rfl (rg_in k8586 (by decide)) dX11_allWays_75 ?_
            refine lv_topi (fun x8588 ex8588 => ?_)
            have k8589 : Rg x8588 0 4095 := wK_rd k7 ex8588
            refine lv_iload_n hx hb dX11_allWays_76 rfl (lv_at hl 0 rfl) ?_
            refine kpurei (wc := []) hP hD hS hA [] rfl (by decide) (fun hPc hDc hFc => va_runS (As := [.int x8588, .int y8571]) (rest := []) ⟨hx, hb, hml, hown, hts⟩ (r_hasx l D cI cJ cB cC x8588 y8571 H.size) (va_cwS 2 hts gX11_allWays_X11_has rfl rfl rfl hdX11_has ⟨Nat.le_of_ble_eq_true rfl, Nat.le_of_ble_eq_true rfl⟩) ⟨kBlind, fun U hU hW => ⟨rfl, by rw [hU], hN.warm hW, hE.pass hS hFc hW hU, by rw [hU]; exact hPc, va_K.moved hW.alike hK, hDc⟩⟩ rfl rfl hl.1 rfl (lv_room (Nat.le_of_ble_eq_true rfl)) dX11_allWays_77 ⟨Nat.le_of_ble_eq_true rfl, Nat.le_of_ble_eq_true rfl⟩) (fun r8590 u H locs hw hP hS => ?_)
            obtain ⟨k8591, k8592, k8593⟩ := hw
            refine lv_if_eq (tgt := 110) hx hb dX11_allWays_80 (by decide) (fun c8612 => ?_) (fun c8612 => ?_)
            · skip
              have k8613 : Rg r8590 0 0 := rg_q1 (eqI c8612) k8592 (rg_lit (n := 0) (by decide)) (by decide)
              obtain ⟨x8614, ex8614⟩ : ∃ y : Int32, y = y8571 + 1 := ⟨_, rfl⟩
              refine lv_iinc (v := x8614) (lv' := [(3, .int x8614), (2, .int r5757), (1, .int y5750), (0, .ref h)]) hx hb dX11_allWays_110 hl (k := 0) rfl (by rw [ex8614]; rfl) (by decide) rfl (fun ls hl => ?_)
              have k8615 : Rg x8614 1 12 := rg_add ex8614 k8581 (rg_lit (n := 1) (by decide)) (by decide)
              refine lv_goto (tgt := 54) hx hb dX11_allWays_113 (by decide) ?_
              exact ih8573 (x8614, g8572) _ _ _ (by show (12 - (x8614).toInt).toNat < (12 - (y8571).toInt).toNat; exact mu_up ex8614 k8581 k8615 (by decide)) ⟨(by rw [(s1_cN (by have q1 := k8581; unfold Rg at q1; omega) (ti_add (Y := 1) ex8614 k8581 (rg_lit (n := 1) (by decide)) (by decide) rfl (by decide)))]; exact inW_skip hX54_0), (by have q1 := (by have q1 := (nleI c8578); rw [k11] at q1; exact q1); have q2 := (ti_add (Y := 1) ex8614 k8581 (rg_lit (n := 1) (by decide)) (by decide) rfl (by decide)); omega), (hF3.trans (kIter_go (kC_eq rfl (kLet_eq (k8577).symm (kif_f (xF_le c8578) (kif_f (xF_le c8583) (kLet_eq (ke_ld ex8588) (kLet_eq (k8593).symm (kif_t (eqI c8612) (kLet_eq (ti_add ex8614 k8581 (rg_lit (n := 1) (by decide)) (by decide) rfl rfl) rfl)))))))))), (rg_w k8615 (by decide)), hP.sub (ws' := [(aW, kcJ cJ 4096 g8572), (h, oX11 th aw ai ab ac hi re aP ta po en be de fa a5 sp av an ak x1 aW aC ag aT aN aF), (aw, kcI cI 2179 fw), (av, kcI cI 400 g2), (an, kcI cI 10 g3), (ak, kcI cI 10 g4)]) [0, 1, 2, 3, 4, 5] rfl, hD.sub (ws' := [(aW, kcJ cJ 4096 g8572), (h, oX11 th aw ai ab ac hi re aP ta po en be de fa a5 sp av an ak x1 aW aC ag aT aN aF), (aw, kcI cI 2179 fw), (av, kcI cI 400 g2), (an, kcI cI 10 g3), (ak, kcI cI 10 g4)]) [0, 1, 2, 3, 4, 5] (by decide) rfl, hS, lv_sub (l' := [(3, .int x8614), (2, .int r5757), (1, .int y5750), (0, .ref h)]) hl [0, 1, 2, 3] rfl⟩
            · skip
              have k8616 : Rg r8590 1 1 := rg_n1 (neI c8612) k8592 (rg_lit (n := 0) (by decide)) (by decide)
              refine lv_iload_n hx hb dX11_allWays_83 rfl (lv_at hl 2 rfl) ?_
              refine lv_iload_n hx hb dX11_allWays_84 rfl (lv_at hl 0 rfl) ?_
              refine kpurei (wc := []) hP hD hS hA [] rfl (by decide) (fun hPc hDc hFc => va_runS (As := [.int y5750, .int y8571]) (rest := []) ⟨hx, hb, hml, hown, hts⟩ (r_hasx l D cI cJ cB cC y5750 y8571 H.size) (va_cwS 2 hts gX11_allWays_X11_has rfl rfl rfl hdX11_has ⟨Nat.le_of_ble_eq_true rfl, Nat.le_of_ble_eq_true rfl⟩) ⟨kBlind, fun U hU hW => ⟨rfl, by rw [hU], hN.warm hW, hE.pass hS hFc hW hU, by rw [hU]; exact hPc, va_K.moved hW.alike hK, hDc⟩⟩ rfl rfl hl.1 rfl (lv_room (Nat.le_of_ble_eq_true rfl)) dX11_allWays_85 ⟨Nat.le_of_ble_eq_true rfl, Nat.le_of_ble_eq_true rfl⟩) (fun r8617 u H locs hw hP hS => ?_)
              obtain ⟨k8618, k8619, k8620⟩ := hw
              refine lv_if_ne (tgt := 110) hx hb dX11_allWays_88 (by decide) (fun c8621 => ?_) (fun c8621 => ?_)
              · skip
                have k8622 : Rg r8617 1 1 := rg_n1 (neI c8621) k8619 (rg_lit (n := 0) (by decide)) (by decide)
                obtain ⟨x8623, ex8623⟩ : ∃ y : Int32, y = y8571 + 1 := ⟨_, rfl⟩
                refine lv_iinc (v := x8623) (lv' := [(3, .int x8623), (2, .int r5757), (1, .int y5750), (0, .ref h)]) hx hb dX11_allWays_110 hl (k := 0) rfl (by rw [ex8623]; rfl) (by decide) rfl (fun ls hl => ?_)
                have k8624 : Rg x8623 1 12 := rg_add ex8623 k8581 (rg_lit (n := 1) (by decide)) (by decide)
                refine lv_goto (tgt := 54) hx hb dX11_allWays_113 (by decide) ?_
                exact ih8573 (x8623, g8572) _ _ _ (by show (12 - (x8623).toInt).toNat < (12 - (y8571).toInt).toNat; exact mu_up ex8623 k8581 k8624 (by decide)) ⟨(by rw [(s1_cN (by have q1 := k8581; unfold Rg at q1; omega) (ti_add (Y := 1) ex8623 k8581 (rg_lit (n := 1) (by decide)) (by decide) rfl (by decide)))]; exact inW_skip hX54_0), (by have q1 := (by have q1 := (nleI c8578); rw [k11] at q1; exact q1); have q2 := (ti_add (Y := 1) ex8623 k8581 (rg_lit (n := 1) (by decide)) (by decide) rfl (by decide)); omega), (hF3.trans (kIter_go (kC_eq rfl (kLet_eq (k8577).symm (kif_f (xF_le c8578) (kif_f (xF_le c8583) (kLet_eq (ke_ld ex8588) (kLet_eq (k8593).symm (kif_f (neI c8612) (kLet_eq (k8620).symm (kif_f (neI c8621) (kLet_eq (ti_add ex8623 k8581 (rg_lit (n := 1) (by decide)) (by decide) rfl rfl) rfl)))))))))))), (rg_w k8624 (by decide)), hP.sub (ws' := [(aW, kcJ cJ 4096 g8572), (h, oX11 th aw ai ab ac hi re aP ta po en be de fa a5 sp av an ak x1 aW aC ag aT aN aF), (aw, kcI cI 2179 fw), (av, kcI cI 400 g2), (an, kcI cI 10 g3), (ak, kcI cI 10 g4)]) [0, 1, 2, 3, 4, 5] rfl, hD.sub (ws' := [(aW, kcJ cJ 4096 g8572), (h, oX11 th aw ai ab ac hi re aP ta po en be de fa a5 sp av an ak x1 aW aC ag aT aN aF), (aw, kcI cI 2179 fw), (av, kcI cI 400 g2), (an, kcI cI 10 g3), (ak, kcI cI 10 g4)]) [0, 1, 2, 3, 4, 5] (by decide) rfl, hS, lv_sub (l' := [(3, .int x8623), (2, .int r5757), (1, .int y5750), (0, .ref h)]) hl [0, 1, 2, 3] rfl⟩
              · skip
                have k8625 : Rg r8617 0 0 := rg_q1 (eqI c8621) k8619 (rg_lit (n := 0) (by decide)) (by decide)
                refine lv_aload_n hx hb dX11_allWays_91 rfl (lv_at hl 3 rfl) ?_
                refine va_get (D := D) (ci := 10) (v := .ref aW) (C := RX11) (T := TX11) (N := 26) hx hb hts iG_X11 hown hK hP 1 rfl rfl 20 (by decide) (hts _ w5_14) (fun _ h9 => h9) rfl dX11_allWays_92 ?_
                refine lv_iload_n hx hb dX11_allWays_95 rfl (lv_at hl 2 rfl) ?_
                refine lv_dup2_11 hx hb dX11_allWays_96 rfl rfl ?_
                refine va_lald hx hb hK hP 0 1 rfl rfl (rg_in k5756 (by decide)) dX11_allWays_97 ?_
                refine lv_topl (fun x8626 ex8626 => ?_)
                refine lv_aload_n hx hb dX11_allWays_98 rfl (lv_at hl 3 rfl) ?_
                refine va_get (D := D) (ci := 10) (v := .ref aW) (C := RX11) (T := TX11) (N := 26) hx hb hts iG_X11 hown hK hP 1 rfl rfl 20 (by decide) (hts _ w5_14) (fun _ h9 => h9) rfl dX11_allWays_99 ?_
                refine lv_iload_n hx hb dX11_allWays_102 rfl (lv_at hl 2 rfl) ?_
                refine lv_iconst (v := 1) hx hb dX11_allWays_103 (by decide) ?_
                refine lv_iload_n hx hb dX11_allWays_104 rfl (lv_at hl 0 rfl) ?_
                refine lv_ishl hx hb dX11_allWays_105 ?_
                refine lv_topi (fun x8627 ex8627 => ?_)
                have k8628 : Rg x8627 1 2048 := rg_shl1 11 ex8627 k8581 (by decide)
                refine lv_ior hx hb dX11_allWays_106 ?_
                refine lv_topi (fun x8629 ex8629 => ?_)
                have k8630 : Rg x8629 0 4095 := rg_or 12 ex8629 k5756 k8628 (by decide)
                refine va_lald hx hb hK hP 0 1 rfl rfl (rg_in k8630 (by decide)) dX11_allWays_107 ?_
                refine lv_topl (fun x8631 ex8631 => ?_)
                refine lv_ladd hx hb dX11_allWays_108 ?_
                refine lv_topl (fun x8632 ex8632 => ?_)
                refine va_last hx hb hK hP hD hS 0 1 rfl rfl (rg_in k5756 (by decide)) dX11_allWays_109 (fun H locs hP hD hS => ?_)
                have hP : va_P D vwCl [(aW, kcJ cJ 4096 (vp_updL g8572 y5750.toNatClampNeg x8632)), (h, oX11 th aw ai ab ac hi re aP ta po en be de fa a5 sp av an ak x1 aW aC ag aT aN aF), (aw, kcI cI 2179 fw), (av, kcI cI 400 g2), (an, kcI cI 10 g3), (ak, kcI cI 10 g4)] H := hP
                have hD : va_D A [(aW, kcJ cJ 4096 (vp_updL g8572 y5750.toNatClampNeg x8632)), (h, oX11 th aw ai ab ac hi re aP ta po en be de fa a5 sp av an ak x1 aW aC ag aT aN aF), (aw, kcI cI 2179 fw), (av, kcI cI 400 g2), (an, kcI cI 10 g3), (ak, kcI cI 10 g4)] := hD
                generalize hg8633 : (vp_updL g8572 y5750.toNatClampNeg x8632) = g8633 at hP hD
                obtain ⟨x8634, ex8634⟩ : ∃ y : Int32, y = y8571 + 1 := ⟨_, rfl⟩
                refine lv_iinc (v := x8634) (lv' := [(3, .int x8634), (2, .int r5757), (1, .int y5750), (0, .ref h)]) hx hb dX11_allWays_110 hl (k := 0) rfl (by rw [ex8634]; rfl) (by decide) rfl (fun ls hl => ?_)
                have k8635 : Rg x8634 1 12 := rg_add ex8634 k8581 (rg_lit (n := 1) (by decide)) (by decide)
                refine lv_goto (tgt := 54) hx hb dX11_allWays_113 (by decide) ?_
                exact ih8573 (x8634, g8633) _ _ _ (by show (12 - (x8634).toInt).toNat < (12 - (y8571).toInt).toNat; exact mu_up ex8634 k8581 k8635 (by decide)) ⟨(by rw [(s1_cN (by have q1 := k8581; unfold Rg at q1; omega) (ti_add (Y := 1) ex8634 k8581 (rg_lit (n := 1) (by decide)) (by decide) rfl (by decide)))]; exact inW_add (v := x8632) hX54_0 (cn_lt2 (nleI c8583) (by have q1 := k8586; unfold Rg at q1; omega)) (cn_to k8587 (by decide)) (cn_lt2 (by have q1 := (nleI c8578); rw [k11] at q1; exact q1) (by have q1 := k8581; unfold Rg at q1; omega)) (by rw [← k11]; exact cn_to k8582 (by decide)) (elig_of ex8588 (cl_of (k := cN r5757) k8586 (by decide) (by simp only [cN]; have q1 := k8586; unfold Rg at q1; omega)) k8591 k8589 (rg_w k8581 (by decide)) c8612 k8618 k5756 (Int32.toInt_inj.mp (eqI c8621))) (by rw [ex8632, ex8626, ex8631, (cl_of (k := cN y5750) k5756 (by decide) (by simp only [cN]; have q1 := k5756; unfold Rg at q1; omega)), (cl_of (k := cN x8629) k8630 (by decide) (by simp only [cN]; have q1 := k8630; unfold Rg at q1; omega)), (or_bit ex8627 ex8629 k5756 (rg_w k8581 (by decide))).1]) (by rw [← (cl_of (k := cN y5750) k5756 (by decide) (by simp only [cN]; have q1 := k5756; unfold Rg at q1; omega))]; exact hg8633)), (by have q1 := (by have q1 := (nleI c8578); rw [k11] at q1; exact q1); have q2 := (ti_add (Y := 1) ex8634 k8581 (rg_lit (n := 1) (by decide)) (by decide) rfl (by decide)); omega), (hF3.trans (kIter_go (kC_eq rfl (kLet_eq (k8577).symm (kif_f (xF_le c8578) (kif_f (xF_le c8583) (kLet_eq (ke_ld ex8588) (kLet_eq (k8593).symm (kif_f (neI c8612) (kLet_eq (k8620).symm (kif_t (eqI c8621) (kLet_eq (ke_ldL ex8626) (kLet_eq (ke_shl ex8627) (kLet_eq (ke_or ex8629) (kLet_eq (ke_ldL ex8631) (kLet_eq ex8632 (kLet_eq (ke_stL hg8633) (kLet_eq (ti_add ex8634 k8581 (rg_lit (n := 1) (by decide)) (by decide) rfl rfl) rfl)))))))))))))))))), (rg_w k8635 (by decide)), hP.sub (ws' := [(aW, kcJ cJ 4096 g8633), (h, oX11 th aw ai ab ac hi re aP ta po en be de fa a5 sp av an ak x1 aW aC ag aT aN aF), (aw, kcI cI 2179 fw), (av, kcI cI 400 g2), (an, kcI cI 10 g3), (ak, kcI cI 10 g4)]) [0, 1, 2, 3, 4, 5] rfl, hD.sub (ws' := [(aW, kcJ cJ 4096 g8633), (h, oX11 th aw ai ab ac hi re aP ta po en be de fa a5 sp av an ak x1 aW aC ag aT aN aF), (aw, kcI cI 2179 fw), (av, kcI cI 400 g2), (an, kcI cI 10 g3), (ak, kcI cI 10 g4)]) [0, 1, 2, 3, 4, 5] (by decide) rfl, hS, lv_sub (l' := [(3, .int x8634), (2, .int r5757), (1, .int y5750), (0, .ref h)]) hl [0, 1, 2, 3] rfl⟩
    · skip
      have k8636 : Rg r5757 1 12 := rg_l2 (nleI c7176) k5 k5761 (by decide)
      refine lv_goto (tgt := 116) hx hb dX11_allWays_30 (by decide) ?_
      obtain ⟨x8637, ex8637⟩ : ∃ y : Int32, y = y5750 + (-1) := ⟨_, rfl⟩
      refine lv_iinc (v := x8637) (lv' := [(1, .int x8637), (2, .int r5757), (0, .ref h)]) hx hb dX11_allWays_116 hl (k := 1) rfl (by rw [ex8637]; rfl) (by decide) rfl (fun ls hl => ?_)
      have k8638 : Rg x8637 (-1) 4094 := rg_add ex8637 k5756 (rg_lit (n := -1) (by decide)) (by decide)
      refine lv_goto (tgt := 13) hx hb dX11_allWays_119 (by decide) ?_
      exact ih5752 (x8637, g5751) _ _ _ (by show ((x8637).toInt - (-1)).toNat < ((y5750).toInt - (-1)).toNat; exact mu_dn ex8637 k5756 k8638 (by decide)) ⟨(tW_out (tW_over (tW_in hX13_0 (by have q1 := k5756; unfold Rg at q1; omega)) (by rw [← (kc_pop k5758 k5756)]; exact cn_lt2 (nleI c7176) (by have q1 := k5; unfold Rg at q1; omega))) (ti_add (Y := -1) ex8637 k5756 (rg_lit (n := -1) (by decide)) (by decide) rfl (by decide))), (by have q1 := hX13_1; have q2 := (ti_add (Y := -1) ex8637 k5756 (rg_lit (n := -1) (by decide)) (by decide) rfl (by decide)); omega), (by have q1 := k5756; have q2 := (ti_add (Y := -1) ex8637 k5756 (rg_lit (n := -1) (by decide)) (by decide) rfl (by decide)); unfold Rg at q1; omega), (hF1.trans (kIter_go (kC_eq rfl (kif_f (xF_lt c5753) (kLet_eq (k5760).symm (kif_f (xF_le c7176) (kLet_eq (ti_add ex8637 k5756 (rg_lit (n := -1) (by decide)) (by decide) rfl rfl) rfl))))))), (rg_w k8638 (by decide)), hP.sub (ws' := [(aW, kcJ cJ 4096 g5751), (h, oX11 th aw ai ab ac hi re aP ta po en be de fa a5 sp av an ak x1 aW aC ag aT aN aF), (aw, kcI cI 2179 fw), (av, kcI cI 400 g2), (an, kcI cI 10 g3), (ak, kcI cI 10 g4)]) [0, 1, 2, 3, 4, 5] rfl, hD.sub (ws' := [(aW, kcJ cJ 4096 g5751), (h, oX11 th aw ai ab ac hi re aP ta po en be de fa a5 sp av an ak x1 aW aC ag aT aN aF), (aw, kcI cI 2179 fw), (av, kcI cI 400 g2), (an, kcI cI 10 g3), (ak, kcI cI 10 g4)]) [0, 1, 2, 3, 4, 5] (by decide) rfl, hS, lv_sub (l' := [(1, .int x8637), (0, .ref h)]) hl [0, 2] rfl⟩

set_option maxHeartbeats 4000000 in
set_option maxRecDepth 100000 in
/-- reference: leastCost -/
theorem r_leastCostx (l : Launch) (D : va_G) (cI cJ cB cC : ClassId) (h : Nat) (th : Int32) (aw : Nat) (ai : Nat) (ab : Nat) (ac : Nat) (hi : Int32) (re : Int32) (aP : Nat) (ta : Int32) (po : Int32) (en : Int32) (be : Int32) (de : Int32) (fa : Int32) (a5 : Nat) (sp : Int32) (av : Nat) (an : Nat) (ak : Nat) (ne : Int32) (aW : Nat) (aC : Nat) (ag : Nat) (aT : Nat) (aN : Nat) (aF : Nat) (fw : Nat → Int32) (fv : Nat → Int32) (fn : Nat → Int32) (fk : Nat → Int32) (fC : Nat → Int32) (sz : Nat) (H_fw_W : wW fw) (H_fw_L : wL fw) (H_fn_N : wN fn) (H_fk_K : wK fk) (H_fC_F : wF fC) : Met l yX11_leastCost kwX11_leastCost ({ frames := 8, cells := 0, slots := 0, locals := 188 } : Room) (kPre D (kT cI cJ cB cC) sz [(h, oX11 th aw ai ab ac hi re aP ta po en be de fa a5 sp av an ak ne aW aC ag aT aN aF), (aw, kcI cI 2179 fw), (av, kcI cI 400 fv), (an, kcI cI 10 fn), (ak, kcI cI 10 fk), (aC, kcI cI 4096 fC)] [.ref h]) (va_Qi (fun (r : Int32) (uu : Int32 × (Nat → Int32) × (Nat → Int32) × (Nat → Int32) × (Nat → Int32)) => match uu with | (n0_, f1_, f2_, f3_, f4_) => Rg n0_ 0 10 ∧ wN f2_ ∧ wK f3_ ∧ wF f4_ ∧ Rg r 0 1000000 ∧ (tC f4_ (fun k9 s9 => (cF fw (f2_ k9) (nI s9)).toInt) f3_ (cN n0_) (cN (fw 1)) 0) ∧ (lkP fw f2_ f3_ n0_ (cN (fw 0))) ∧ F_r_leastCostx (gT fw) (gT fv) (gT fn) (gT fk) (gT fC) = ((r : Int32).toInt, (n0_ : Int32).toInt, (gT f1_), (gT f2_), (gT f3_), (gT f4_))) (fun (uu : Int32 × (Nat → Int32) × (Nat → Int32) × (Nat → Int32) × (Nat → Int32)) (t : State) => match uu with | (n0_, f1_, f2_, f3_, f4_) => kB D (kT cI cJ cB cC) (va_A [(h, oX11 th aw ai ab ac hi re aP ta po en be de fa a5 sp av an ak ne aW aC ag aT aN aF), (aw, kcI cI 2179 fw), (av, kcI cI 400 fv), (an, kcI cI 10 fn), (ak, kcI cI 10 fk), (aC, kcI cI 4096 fC)] sz) [(h, oX11 th aw ai ab ac hi re aP ta po en be de fa a5 sp av an ak n0_ aW aC ag aT aN aF), (aw, kcI cI 2179 fw), (av, kcI cI 400 f1_), (an, kcI cI 10 f2_), (ak, kcI cI 10 f3_), (aC, kcI cI 4096 f4_)] t) (va_A [(h, oX11 th aw ai ab ac hi re aP ta po en be de fa a5 sp av an ak ne aW aC ag aT aN aF), (aw, kcI cI 2179 fw), (av, kcI cI 400 fv), (an, kcI cI 10 fn), (ak, kcI cI 10 fk), (aC, kcI cI 4096 fC)] sz)) 0 0 (va_A [(h, oX11 th aw ai ab ac hi re aP ta po en be de fa a5 sp av an ak ne aW aC ag aT aN aF), (aw, kcI cI 2179 fw), (av, kcI cI 400 fv), (an, kcI cI 10 fn), (ak, kcI cI 10 fk), (aC, kcI cI 4096 fC)] sz) := by
  refine Met.ofW (cc := cX11_leastCost) (maxL := 4) (ret := (some .int)) (by decide) rfl ?_
  intro p e s m args below meth c s₁ B hml hv
  obtain ⟨rfl, hsz, hN, hE, hP, hK, hD0⟩ := hv
  have hx := B.exec
  have hb := B.bytes
  have hr := B.returns
  have hts := fun (w : Cond) (h : w ∈ kG) => atoms_spec (ws := kwX11_leastCost) B.pre w (List.mem_cons_of_mem _ h)
  have hown : s.vm.findClass RX11 = some m.cls := findClass_of_methodNamed B.named
  subst hsz
  have hD := hD0.self (sz := s.heap.size)
  generalize hAe : va_A [(h, oX11 th aw ai ab ac hi re aP ta po en be de fa a5 sp av an ak ne aW aC ag aT aN aF), (aw, kcI cI 2179 fw), (av, kcI cI 400 fv), (an, kcI cI 10 fn), (ak, kcI cI 10 fk), (aC, kcI cI 4096 fC)] s.heap.size = A at hD hE ⊢
  have hA : ∀ q : Nat, s.heap.size ≤ q → A q := fun q h => by rw [← hAe]; exact Or.inr h
  have hl := lv_entry ([.ref h]) (n := 4) (Nat.le_of_ble_eq_true rfl)
  rw [lg_entry_eq]
  generalize (lg_sl ([.ref h]) ++ List.replicate (4 - (lg_sl ([.ref h])).length) Slot.unset).toArray = ls at hl ⊢
  have hl : lv_has ls 4 [(0, .ref h)] := hl
  obtain ⟨H, hH0⟩ : ∃ H, H = s.heap := ⟨_, rfl⟩
  have hS : va_S A s.heap H [] := by rw [hH0]; exact va_S.rf
  have hP : va_P D vwCl [(h, oX11 th aw ai ab ac hi re aP ta po en be de fa a5 sp av an ak ne aW aC ag aT aN aF), (aw, kcI cI 2179 fw), (av, kcI cI 400 fv), (an, kcI cI 10 fn), (ak, kcI cI 10 fk), (aC, kcI cI 4096 fC)] H := by rw [hH0]; exact hP
  refine kHeap hH0 ?_
  clear hH0
  refine lv_aload_n hx hb dX11_leastCost_0 rfl (lv_at hl 0 rfl) ?_
  refine kcallv (wc := [(h, oX11 th aw ai ab ac hi re aP ta po en be de fa a5 sp av an ak ne aW aC ag aT aN aF), (aw, kcI cI 2179 fw), (av, kcI cI 400 fv), (an, kcI cI 10 fn), (ak, kcI cI 10 fk)]) (wr := [(aC, kcI cI 4096 fC)]) hP hD hS hA [0, 1, 2, 3, 4] [5] rfl rfl (by decide) (by decide) (by decide) (fun hPc hDc hFc => va_runV (As := []) (rest := []) ⟨hx, hb, hml, hown, hts⟩ (r_looksx l D cI cJ cB cC h th aw ai ab ac hi re aP ta po en be de fa a5 sp av an ak ne aW aC ag aT aN aF fw fv fn fk H.size H_fw_W H_fw_L H_fn_N H_fk_K) (cwV 0 hts gX11_leastCost_X11_looks rfl rfl rfl ⟨rfl, hdX11_looks⟩ ⟨Nat.le_of_ble_eq_true rfl, Nat.le_of_ble_eq_true rfl⟩) ⟨kBlind, va_recv hK hPc (ci := 10) (q0 := 0) rfl rfl, fun U hU hW => ⟨rfl, by rw [hU], hN.warm hW, hE.pass hS hFc hW hU, by rw [hU]; exact hPc, va_K.moved hW.alike hK, hDc⟩⟩ rfl rfl hl.1 rfl (lv_room (Nat.le_of_ble_eq_true rfl)) dX11_leastCost_1 ⟨Nat.le_of_ble_eq_true rfl, Nat.le_of_ble_eq_true rfl⟩) (fun u H locs hw hP hD hS => ?_)
  obtain ⟨x1, g2, g3, g4⟩ := u
  have hP : va_P D vwCl [(aC, kcI cI 4096 fC), (h, oX11 th aw ai ab ac hi re aP ta po en be de fa a5 sp av an ak x1 aW aC ag aT aN aF), (aw, kcI cI 2179 fw), (av, kcI cI 400 g2), (an, kcI cI 10 g3), (ak, kcI cI 10 g4)] H := hP
  have hD : va_D A [(aC, kcI cI 4096 fC), (h, oX11 th aw ai ab ac hi re aP ta po en be de fa a5 sp av an ak x1 aW aC ag aT aN aF), (aw, kcI cI 2179 fw), (av, kcI cI 400 g2), (an, kcI cI 10 g3), (ak, kcI cI 10 g4)] := hD
  obtain ⟨k5, k6, k7, k8, k9⟩ := hw
  refine lv_iconst (v := 1) hx hb dX11_leastCost_4 (by decide) ?_
  refine lv_aload_n hx hb dX11_leastCost_5 rfl (lv_at hl 0 rfl) ?_
  refine kpurei (wc := [(h, oX11 th aw ai ab ac hi re aP ta po en be de fa a5 sp av an ak x1 aW aC ag aT aN aF), (aw, kcI cI 2179 fw)]) hP hD hS hA [1, 2] rfl (by decide) (fun hPc hDc hFc => va_runV (As := []) (rest := [.int 1]) ⟨hx, hb, hml, hown, hts⟩ (r_shirts l D cI cJ cB cC h th aw ai ab ac hi re aP ta po en be de fa a5 sp av an ak x1 aW aC ag aT aN aF fw H.size H_fw_W) (cwV 0 hts gX11_leastCost_X11_shirts rfl rfl rfl ⟨rfl, hdX11_shirts⟩ ⟨Nat.le_of_ble_eq_true rfl, Nat.le_of_ble_eq_true rfl⟩) ⟨kBlind, va_recv hK hPc (ci := 10) (q0 := 0) rfl rfl, fun U hU hW => ⟨rfl, by rw [hU], hN.warm hW, hE.pass hS hFc hW hU, by rw [hU]; exact hPc, va_K.moved hW.alike hK, hDc⟩⟩ rfl rfl hl.1 rfl (lv_room (Nat.le_of_ble_eq_true rfl)) dX11_leastCost_6 ⟨Nat.le_of_ble_eq_true rfl, Nat.le_of_ble_eq_true rfl⟩) (fun r10 u H locs hw hP hS => ?_)
  obtain ⟨k11, k12, k13⟩ := hw
  refine lv_ishl hx hb dX11_leastCost_9 ?_
  refine lv_topi (fun x14 ex14 => ?_)
  have k15 : Rg x14 1 4096 := rg_shl1 12 ex14 k12 (by decide)
  refine lv_iconst (v := 1) hx hb dX11_leastCost_10 (by decide) ?_
  refine lv_isub hx hb dX11_leastCost_11 ?_
  refine lv_topi (fun x16 ex16 => ?_)
  have tx16 : x16.toInt = x14.toInt - 1 := ti_sub ex16 k15 (rg_lit (n := 1) (by decide)) (by decide) rfl (by decide)
  have k17 : Rg x16 0 4095 := rg_sub ex16 k15 (rg_lit (n := 1) (by decide)) (by decide)
  refine lv_istore_n (lv' := [(1, .int x16), (0, .ref h)]) hx hb dX11_leastCost_12 rfl hl (by decide) rfl (fun ls hl => ?_)
  refine k_loop (hd := 13) (fun (u : Int32 × (Nat → Int32) × (Nat → Int32)) => match u with | (y7657, g7658, g7659) => ((y7657).toInt - (-1)).toNat) (fun (u : Int32 × (Nat → Int32) × (Nat → Int32)) (H : Heap) (locs : List Loc) (ls : Array Slot) => match u with | (y7657, g7658, g7659) => (tC g7658 (fun k9 s9 => (cF fw (g3 k9) (nI s9)).toInt) g4 (cN x1) (cN (fw 1)) ((y7657 : Int32).toInt + 1).toNat) ∧ ((y7657 : Int32).toInt < ((2 ^ cN (fw 1) : Nat) : Int)) ∧ (-1 ≤ (y7657 : Int32).toInt) ∧ (F_r_leastCostx (gT fw) (gT fv) (gT fn) (gT fk) (gT fC) = F_r_leastCostx_l1 (gT fw) x1.toInt (gT g3) (gT g4) r10.toInt (y7657.toInt, (gT g7658), (gT g7659))) ∧ Rg y7657 (-1) 4095 ∧ wF g7658 ∧ va_P D vwCl [(aC, kcI cI 4096 g7658), (h, oX11 th aw ai ab ac hi re aP ta po en be de fa a5 sp av an ak x1 aW aC ag aT aN aF), (aw, kcI cI 2179 fw), (av, kcI cI 400 g7659), (an, kcI cI 10 g3), (ak, kcI cI 10 g4)] H ∧ va_D A [(aC, kcI cI 4096 g7658), (h, oX11 th aw ai ab ac hi re aP ta po en be de fa a5 sp av an ak x1 aW aC ag aT aN aF), (aw, kcI cI 2179 fw), (av, kcI cI 400 g7659), (an, kcI cI 10 g3), (ak, kcI cI 10 g4)] ∧ va_S A s.heap H locs ∧ lv_has ls 4 [(1, .int y7657), (0, .ref h)]) (x16, fC, g2) ⟨(by rw [← k11]; exact tC_top (shl_top ex14 ex16 k12).1), (by rw [← k11]; exact lt_p1 (shl_top ex14 ex16 k12).1), (by have q1 := k17; unfold Rg at q1; omega), (kC_eq k9 (kC_eq rfl (kC_eq rfl (kLet_eq (k13).symm (kLet_eq (ke_shl ex14) (kLet_eq (ti_sub ex16 k15 (rg_lit (n := 1) (by decide)) (by decide) rfl rfl) rfl)))))), (rg_w k17 (by decide)), H_fC_F, hP.sub (ws' := [(aC, kcI cI 4096 fC), (h, oX11 th aw ai ab ac hi re aP ta po en be de fa a5 sp av an ak x1 aW aC ag aT aN aF), (aw, kcI cI 2179 fw), (av, kcI cI 400 g2), (an, kcI cI 10 g3), (ak, kcI cI 10 g4)]) [0, 1, 2, 3, 4, 5] rfl, hD.sub (ws' := [(aC, kcI cI 4096 fC), (h, oX11 th aw ai ab ac hi re aP ta po en be de fa a5 sp av an ak x1 aW aC ag aT aN aF), (aw, kcI cI 2179 fw), (av, kcI cI 400 g2), (an, kcI cI 10 g3), (ak, kcI cI 10 g4)]) [0, 1, 2, 3, 4, 5] (by decide) rfl, hS, lv_sub (l' := [(1, .int x16), (0, .ref h)]) hl [0, 1] rfl⟩ (fun u H locs ls hI ih7660 => ?_)
  clear hP hD hS hl
  obtain ⟨y7657, g7658, g7659⟩ := u
  obtain ⟨hX13_0, hX13_1, hX13_2, hF1, hy7657, hg7658_0, hP, hD, hS, hl⟩ := hI
  have hP : va_P D vwCl [(aC, kcI cI 4096 g7658), (h, oX11 th aw ai ab ac hi re aP ta po en be de fa a5 sp av an ak x1 aW aC ag aT aN aF), (aw, kcI cI 2179 fw), (av, kcI cI 400 g7659), (an, kcI cI 10 g3), (ak, kcI cI 10 g4)] H := hP
  have hD : va_D A [(aC, kcI cI 4096 g7658), (h, oX11 th aw ai ab ac hi re aP ta po en be de fa a5 sp av an ak x1 aW aC ag aT aN aF), (aw, kcI cI 2179 fw), (av, kcI cI 400 g7659), (an, kcI cI 10 g3), (ak, kcI cI 10 g4)] := hD
  have hl : lv_has ls 4 [(1, .int y7657), (0, .ref h)] := hl
  refine lv_iload_n hx hb dX11_leastCost_13 rfl (lv_at hl 0 rfl) ?_
  refine lv_if_lt (tgt := 142) hx hb dX11_leastCost_14 (by decide) (fun c7661 => ?_) (fun c7661 => ?_)
  · skip
    have k7662 : Rg y7657 (-1) (-1) := rg_l1 (ltI c7661) hy7657 (rg_lit (n := 0) (by decide)) (by decide)
    refine lv_aload_n hx hb dX11_leastCost_142 rfl (lv_at hl 1 rfl) ?_
    refine va_get (D := D) (ci := 10) (v := .ref aC) (C := RX11) (T := TX11) (N := 26) hx hb hts iG_X11 hown hK hP 1 rfl rfl 21 (by decide) (hts _ w5_15) (fun _ h9 => h9) rfl dX11_leastCost_143 ?_
    refine lv_iconst (v := 0) hx hb dX11_leastCost_146 (by decide) ?_
    refine va_iald hx hb hK hP 0 0 rfl rfl (rg_in (rg_lit (n := 0) (by decide)) (by decide)) dX11_leastCost_147 ?_
    refine lv_topi (fun x7663 ex7663 => ?_)
    have k7664 : Rg x7663 0 1000000 := wF_rd hg7658_0 ex7663
    have hP9 := hP.sub (ws' := [(h, oX11 th aw ai ab ac hi re aP ta po en be de fa a5 sp av an ak x1 aW aC ag aT aN aF), (aw, kcI cI 2179 fw), (av, kcI cI 400 g7659), (an, kcI cI 10 g3), (ak, kcI cI 10 g4), (aC, kcI cI 4096 g7658)]) [1, 2, 3, 4, 5, 0] rfl
    have hD9 := hD.sub (ws' := [(h, oX11 th aw ai ab ac hi re aP ta po en be de fa a5 sp av an ak x1 aW aC ag aT aN aF), (aw, kcI cI 2179 fw), (av, kcI cI 400 g7659), (an, kcI cI 10 g3), (ak, kcI cI 10 g4), (aC, kcI cI 4096 g7658)]) [1, 2, 3, 4, 5, 0] (by decide) rfl
    exact W.iret (v := x7663) hx hb hr (fun t ht hW => ⟨⟨x7663, (x1, g7659, g3, g4, g7658), rfl, ⟨k5, k6, k7, hg7658_0, k7664, (tC_all hX13_0 (by have q1 := (ltI c7661); have q2 : (0 : Int32).toInt = 0 := (by decide); omega)), k8, (hF1.trans (kIter_out (kC_eq rfl (kC_eq rfl (kif_t (ltI c7661) (kLet_eq (ke_ld ex7663) rfl))))))⟩, by rw [ht]; exact hP9, va_K.moved hW.alike hK, hD9⟩, hS.F ht⟩) hS.2.2 dX11_leastCost_148
  · skip
    have k7665 : Rg y7657 0 4095 := rg_e2 (nltI c7661) (rg_lit (n := 0) (by decide)) hy7657 (by decide)
    refine lv_iload_n hx hb dX11_leastCost_17 rfl (lv_at hl 0 rfl) ?_
    refine kpurei (wc := []) hP hD hS hA [] rfl (by decide) (fun hPc hDc hFc => va_runS (As := [.int y7657]) (rest := []) ⟨hx, hb, hml, hown, hts⟩ (z_bitCountx l D cI cJ cB cC y7657 H.size) (va_cwS 1 hts gX11_leastCost_J6_bitCount_0f7a4 rfl rfl rfl hdJ6_bitCount_0f7a4 ⟨Nat.le_of_ble_eq_true rfl, Nat.le_of_ble_eq_true rfl⟩) ⟨kBlind, fun U hU hW => ⟨rfl, by rw [hU], hN.warm hW, hE.pass hS hFc hW hU, by rw [hU]; exact hPc, va_K.moved hW.alike hK, hDc⟩⟩ rfl rfl hl.1 rfl (lv_room (Nat.le_of_ble_eq_true rfl)) dX11_leastCost_18 ⟨Nat.le_of_ble_eq_true rfl, Nat.le_of_ble_eq_true rfl⟩) (fun r7666 u H locs hw hP hS => ?_)
    obtain ⟨k7667, k7668, k7669⟩ := hw
    have k7670 : Rg r7666 0 12 := (kBC_rg k7667 k7665).2
    refine lv_istore_n (lv' := [(2, .int r7666), (1, .int y7657), (0, .ref h)]) hx hb dX11_leastCost_21 rfl hl (by decide) rfl (fun ls hl => ?_)
    refine lv_iload_n hx hb dX11_leastCost_22 rfl (lv_at hl 0 rfl) ?_
    refine lv_aload_n hx hb dX11_leastCost_23 rfl (lv_at hl 2 rfl) ?_
    refine va_get (D := D) (ci := 10) (v := .int x1) (C := RX11) (T := TX11) (N := 26) hx hb hts iG_X11 hown hK hP 1 rfl rfl 19 (by decide) (hts _ w40_7) (fun _ h9 => h9) rfl dX11_leastCost_24 ?_
    refine lv_icmp_le (tgt := 33) hx hb dX11_leastCost_27 (by decide) (fun c9561 => ?_) (fun c9561 => ?_)
    · skip
      have k9562 : Rg r7666 0 10 := rg_e1 (leI c9561) k7670 k5 (by decide)
      refine lv_aload_n hx hb dX11_leastCost_33 rfl (lv_at hl 2 rfl) ?_
      refine va_get (D := D) (ci := 10) (v := .ref aC) (C := RX11) (T := TX11) (N := 26) hx hb hts iG_X11 hown hK hP 1 rfl rfl 21 (by decide) (hts _ w5_15) (fun _ h9 => h9) rfl dX11_leastCost_34 ?_
      refine lv_iload_n hx hb dX11_leastCost_37 rfl (lv_at hl 1 rfl) ?_
      refine lv_iload_n hx hb dX11_leastCost_38 rfl (lv_at hl 0 rfl) ?_
      refine lv_aload_n hx hb dX11_leastCost_39 rfl (lv_at hl 2 rfl) ?_
      refine va_get (D := D) (ci := 10) (v := .int x1) (C := RX11) (T := TX11) (N := 26) hx hb hts iG_X11 hown hK hP 1 rfl rfl 19 (by decide) (hts _ w40_7) (fun _ h9 => h9) rfl dX11_leastCost_40 ?_
      refine lv_icmp_ne (tgt := 50) hx hb dX11_leastCost_43 (by decide) (fun c9564 => ?_) (fun c9564 => ?_)
      · skip
        refine lv_ldcw (v := 1000000) hx hb hown (hts _ w42_16) dX11_leastCost_50 ?_
        refine va_iast hx hb hK hP hD hS 0 0 rfl rfl (rg_in k7665 (by decide)) dX11_leastCost_53 (fun H locs hP hD hS => ?_)
        have hP : va_P D vwCl [(aC, kcI cI 4096 (upd g7658 y7657.toNatClampNeg 1000000)), (h, oX11 th aw ai ab ac hi re aP ta po en be de fa a5 sp av an ak x1 aW aC ag aT aN aF), (aw, kcI cI 2179 fw), (av, kcI cI 400 g7659), (an, kcI cI 10 g3), (ak, kcI cI 10 g4)] H := hP
        have hD : va_D A [(aC, kcI cI 4096 (upd g7658 y7657.toNatClampNeg 1000000)), (h, oX11 th aw ai ab ac hi re aP ta po en be de fa a5 sp av an ak x1 aW aC ag aT aN aF), (aw, kcI cI 2179 fw), (av, kcI cI 400 g7659), (an, kcI cI 10 g3), (ak, kcI cI 10 g4)] := hD
        have k9566 : wF (upd g7658 y7657.toNatClampNeg 1000000) := wF_upd hg7658_0 (rg_w (rg_lit (n := 1000000) (by decide)) (by decide))
        generalize hg9565 : (upd g7658 y7657.toNatClampNeg 1000000) = g9565 at hP hD k9566
        refine lv_iconst (v := 0) hx hb dX11_leastCost_54 (by decide) ?_
        refine lv_istore_n (lv' := [(3, .int 0), (2, .int r7666), (1, .int y7657), (0, .ref h)]) hx hb dX11_leastCost_55 rfl hl (by decide) rfl (fun ls hl => ?_)
        refine k_loop (hd := 56) (fun (u : Int32 × (Nat → Int32) × (Nat → Int32)) => match u with | (y10452, g10453, g10454) => (12 - (y10452).toInt).toNat) (fun (u : Int32 × (Nat → Int32) × (Nat → Int32)) (H : Heap) (locs : List Loc) (ls : Array Slot) => match u with | (y10452, g10453, g10454) => (inC g10453 (fun k9 s9 => (cF fw (g3 k9) (nI s9)).toInt) g4 (cN x1) (cN (fw 1)) (cN y7657) (cN r7666) (cN y10452)) ∧ ((y10452 : Int32).toInt ≤ (fw 1).toInt) ∧ (F_r_leastCostx_l1_s (gT fw) x1.toInt (gT g3) (gT g4) r10.toInt (y7657.toInt, (gT g7658), (gT g7659)) = F_r_leastCostx_l2 (gT fw) x1.toInt (gT g3) (gT g4) r10.toInt y7657.toInt r7666.toInt (y10452.toInt, (gT g10453), (gT g10454))) ∧ Rg y10452 0 12 ∧ wF g10453 ∧ va_P D vwCl [(aC, kcI cI 4096 g10453), (h, oX11 th aw ai ab ac hi re aP ta po en be de fa a5 sp av an ak x1 aW aC ag aT aN aF), (aw, kcI cI 2179 fw), (av, kcI cI 400 g10454), (an, kcI cI 10 g3), (ak, kcI cI 10 g4)] H ∧ va_D A [(aC, kcI cI 4096 g10453), (h, oX11 th aw ai ab ac hi re aP ta po en be de fa a5 sp av an ak x1 aW aC ag aT aN aF), (aw, kcI cI 2179 fw), (av, kcI cI 400 g10454), (an, kcI cI 10 g3), (ak, kcI cI 10 g4)] ∧ va_S A s.heap H locs ∧ lv_has ls 4 [(3, .int y10452), (2, .int r7666), (1, .int y7657), (0, .ref h)]) ((0 : Int32), g9565, g7659) ⟨(by have q0 : cN (0 : Int32) = 0 := (by decide); rw [q0]; exact inC_new (tC_in hX13_0 (by have q1 := k7665; unfold Rg at q1; omega)) (by rw [← (cl_of (k := cN y7657) k7665 (by decide) (by simp only [cN]; have q1 := k7665; unfold Rg at q1; omega))]; exact hg9565) (kc_pop k7667 k7665) (cn_le (leI c9561)) (cn_lt hX13_1 (by have q1 := k7665; unfold Rg at q1; omega)) (Or.inr ⟨cn_lt2 (by have q1 := (leI c9561); have q2 := neI c9564; omega) (by have q1 := k9562; unfold Rg at q1; omega), rfl⟩)), (by rw [← k11]; have q1 := k12; unfold Rg at q1; have q2 : (0 : Int32).toInt = 0 := (by decide); omega), (kC_eq rfl (kC_eq rfl (kif_f (xF_lt c7661) (kLet_eq (k7669).symm (kif_t (leI c9561) (kif_f (neI c9564) (kLet_eq (ke_st hg9565) rfl))))))), (rg_w (rg_lit (n := 0) (by decide)) (by decide)), k9566, hP.sub (ws' := [(aC, kcI cI 4096 g9565), (h, oX11 th aw ai ab ac hi re aP ta po en be de fa a5 sp av an ak x1 aW aC ag aT aN aF), (aw, kcI cI 2179 fw), (av, kcI cI 400 g7659), (an, kcI cI 10 g3), (ak, kcI cI 10 g4)]) [0, 1, 2, 3, 4, 5] rfl, hD.sub (ws' := [(aC, kcI cI 4096 g9565), (h, oX11 th aw ai ab ac hi re aP ta po en be de fa a5 sp av an ak x1 aW aC ag aT aN aF), (aw, kcI cI 2179 fw), (av, kcI cI 400 g7659), (an, kcI cI 10 g3), (ak, kcI cI 10 g4)]) [0, 1, 2, 3, 4, 5] (by decide) rfl, hS, lv_sub (l' := [(3, .int 0), (2, .int r7666), (1, .int y7657), (0, .ref h)]) hl [0, 1, 2, 3] rfl⟩ (fun u H locs ls hI ih10455 => ?_)
        clear hP hD hS hl
        obtain ⟨y10452, g10453, g10454⟩ := u
        obtain ⟨hX56_0, hX56_1, hF2, hy10452, hg10453_0, hP, hD, hS, hl⟩ := hI
        have hP : va_P D vwCl [(aC, kcI cI 4096 g10453), (h, oX11 th aw ai ab ac hi re aP ta po en be de fa a5 sp av an ak x1 aW aC ag aT aN aF), (aw, kcI cI 2179 fw), (av, kcI cI 400 g10454), (an, kcI cI 10 g3), (ak, kcI cI 10 g4)] H := hP
        have hD : va_D A [(aC, kcI cI 4096 g10453), (h, oX11 th aw ai ab ac hi re aP ta po en be de fa a5 sp av an ak x1 aW aC ag aT aN aF), (aw, kcI cI 2179 fw), (av, kcI cI 400 g10454), (an, kcI cI 10 g3), (ak, kcI cI 10 g4)] := hD
        have hl : lv_has ls 4 [(3, .int y10452), (2, .int r7666), (1, .int y7657), (0, .ref h)] := hl
        refine lv_iload_n hx hb dX11_leastCost_56 rfl (lv_at hl 0 rfl) ?_
        refine lv_aload_n hx hb dX11_leastCost_57 rfl (lv_at hl 3 rfl) ?_
        refine kpurei (wc := [(h, oX11 th aw ai ab ac hi re aP ta po en be de fa a5 sp av an ak x1 aW aC ag aT aN aF), (aw, kcI cI 2179 fw)]) hP hD hS hA [1, 2] rfl (by decide) (fun hPc hDc hFc => va_runV (As := []) (rest := [.int y10452]) ⟨hx, hb, hml, hown, hts⟩ (r_shirts l D cI cJ cB cC h th aw ai ab ac hi re aP ta po en be de fa a5 sp av an ak x1 aW aC ag aT aN aF fw H.size H_fw_W) (cwV 0 hts gX11_leastCost_X11_shirts rfl rfl rfl ⟨rfl, hdX11_shirts⟩ ⟨Nat.le_of_ble_eq_true rfl, Nat.le_of_ble_eq_true rfl⟩) ⟨kBlind, va_recv hK hPc (ci := 10) (q0 := 0) rfl rfl, fun U hU hW => ⟨rfl, by rw [hU], hN.warm hW, hE.pass hS hFc hW hU, by rw [hU]; exact hPc, va_K.moved hW.alike hK, hDc⟩⟩ rfl rfl hl.1 rfl (lv_room (Nat.le_of_ble_eq_true rfl)) dX11_leastCost_58 ⟨Nat.le_of_ble_eq_true rfl, Nat.le_of_ble_eq_true rfl⟩) (fun r10456 u H locs hw hP hS => ?_)
        obtain ⟨k10457, k10458, k10459⟩ := hw
        obtain rfl : r10 = r10456 := k11.trans k10457.symm
        refine lv_icmp_ge (tgt := 136) hx hb dX11_leastCost_61 (by decide) (fun c10460 => ?_) (fun c10460 => ?_)
        · skip
          obtain ⟨x10461, ex10461⟩ : ∃ y : Int32, y = y7657 + (-1) := ⟨_, rfl⟩
          refine lv_iinc (v := x10461) (lv' := [(1, .int x10461), (3, .int y10452), (2, .int r7666), (0, .ref h)]) hx hb dX11_leastCost_136 hl (k := 2) rfl (by rw [ex10461]; rfl) (by decide) rfl (fun ls hl => ?_)
          have k10462 : Rg x10461 (-1) 4094 := rg_add ex10461 k7665 (rg_lit (n := -1) (by decide)) (by decide)
          refine lv_goto (tgt := 13) hx hb dX11_leastCost_139 (by decide) ?_
          exact ih7660 (x10461, g10453, g10454) _ _ _ (by show ((x10461).toInt - (-1)).toNat < ((y7657).toInt - (-1)).toNat; exact mu_dn ex10461 k7665 k10462 (by decide)) ⟨(tC_out (tC_done hX56_0 (fun _ => Nat.le_antisymm (cn_le hX56_1) (cn_le (by have q1 := (leI c10460); rw [k11] at q1; exact q1)))) (ti_add (Y := -1) ex10461 k7665 (rg_lit (n := -1) (by decide)) (by decide) rfl (by decide))), (by have q1 := hX13_1; have q2 := (ti_add (Y := -1) ex10461 k7665 (rg_lit (n := -1) (by decide)) (by decide) rfl (by decide)); omega), (by have q1 := k7665; have q2 := (ti_add (Y := -1) ex10461 k7665 (rg_lit (n := -1) (by decide)) (by decide) rfl (by decide)); unfold Rg at q1; omega), (hF1.trans (kIter_go (hF2.trans (kIter_out (kC_eq rfl (kC_eq rfl (kLet_eq (k10459).symm (kif_t (leI c10460) (kLet_eq (ti_add ex10461 k7665 (rg_lit (n := -1) (by decide)) (by decide) rfl rfl) rfl))))))))), (rg_w k10462 (by decide)), hg10453_0, hP.sub (ws' := [(aC, kcI cI 4096 g10453), (h, oX11 th aw ai ab ac hi re aP ta po en be de fa a5 sp av an ak x1 aW aC ag aT aN aF), (aw, kcI cI 2179 fw), (av, kcI cI 400 g10454), (an, kcI cI 10 g3), (ak, kcI cI 10 g4)]) [0, 1, 2, 3, 4, 5] rfl, hD.sub (ws' := [(aC, kcI cI 4096 g10453), (h, oX11 th aw ai ab ac hi re aP ta po en be de fa a5 sp av an ak x1 aW aC ag aT aN aF), (aw, kcI cI 2179 fw), (av, kcI cI 400 g10454), (an, kcI cI 10 g3), (ak, kcI cI 10 g4)]) [0, 1, 2, 3, 4, 5] (by decide) rfl, hS, lv_sub (l' := [(1, .int x10461), (0, .ref h)]) hl [0, 3] rfl⟩
        · skip
          have k10463 : Rg y10452 0 11 := rg_l1 (nleI c10460) hy10452 k12 (by decide)
          have k10464 : Rg r10 1 12 := rg_l2 (nleI c10460) hy10452 k12 (by decide)
          refine lv_iload_n hx hb dX11_leastCost_64 rfl (lv_at hl 1 rfl) ?_
          refine lv_aload_n hx hb dX11_leastCost_65 rfl (lv_at hl 3 rfl) ?_
          refine va_get (D := D) (ci := 10) (v := .int x1) (C := RX11) (T := TX11) (N := 26) hx hb hts iG_X11 hown hK hP 1 rfl rfl 19 (by decide) (hts _ w40_7) (fun _ h9 => h9) rfl dX11_leastCost_66 ?_
          refine lv_icmp_ge (tgt := 136) hx hb dX11_leastCost_69 (by decide) (fun c10465 => ?_) (fun c10465 => ?_)
          · skip
            obtain ⟨x10466, ex10466⟩ : ∃ y : Int32, y = y7657 + (-1) := ⟨_, rfl⟩
            refine lv_iinc (v := x10466) (lv' := [(1, .int x10466), (3, .int y10452), (2, .int r7666), (0, .ref h)]) hx hb dX11_leastCost_136 hl (k := 2) rfl (by rw [ex10466]; rfl) (by decide) rfl (fun ls hl => ?_)
            have k10467 : Rg x10466 (-1) 4094 := rg_add ex10466 k7665 (rg_lit (n := -1) (by decide)) (by decide)
            refine lv_goto (tgt := 13) hx hb dX11_leastCost_139 (by decide) ?_
            exact ih7660 (x10466, g10453, g10454) _ _ _ (by show ((x10466).toInt - (-1)).toNat < ((y7657).toInt - (-1)).toNat; exact mu_dn ex10466 k7665 k10467 (by decide)) ⟨(tC_out (tC_done hX56_0 (fun q => absurd q (Nat.not_lt.mpr (cn_le (leI c10465))))) (ti_add (Y := -1) ex10466 k7665 (rg_lit (n := -1) (by decide)) (by decide) rfl (by decide))), (by have q1 := hX13_1; have q2 := (ti_add (Y := -1) ex10466 k7665 (rg_lit (n := -1) (by decide)) (by decide) rfl (by decide)); omega), (by have q1 := k7665; have q2 := (ti_add (Y := -1) ex10466 k7665 (rg_lit (n := -1) (by decide)) (by decide) rfl (by decide)); unfold Rg at q1; omega), (hF1.trans (kIter_go (hF2.trans (kIter_out (kC_eq rfl (kC_eq rfl (kLet_eq (k10459).symm (kif_f (xF_le c10460) (kif_t (leI c10465) (kLet_eq (ti_add ex10466 k7665 (rg_lit (n := -1) (by decide)) (by decide) rfl rfl) rfl)))))))))), (rg_w k10467 (by decide)), hg10453_0, hP.sub (ws' := [(aC, kcI cI 4096 g10453), (h, oX11 th aw ai ab ac hi re aP ta po en be de fa a5 sp av an ak x1 aW aC ag aT aN aF), (aw, kcI cI 2179 fw), (av, kcI cI 400 g10454), (an, kcI cI 10 g3), (ak, kcI cI 10 g4)]) [0, 1, 2, 3, 4, 5] rfl, hD.sub (ws' := [(aC, kcI cI 4096 g10453), (h, oX11 th aw ai ab ac hi re aP ta po en be de fa a5 sp av an ak x1 aW aC ag aT aN aF), (aw, kcI cI 2179 fw), (av, kcI cI 400 g10454), (an, kcI cI 10 g3), (ak, kcI cI 10 g4)]) [0, 1, 2, 3, 4, 5] (by decide) rfl, hS, lv_sub (l' := [(1, .int x10466), (0, .ref h)]) hl [0, 3] rfl⟩
          · skip
            have k10468 : Rg r7666 0 9 := rg_l1 (nleI c10465) k9562 k5 (by decide)
            have k10469 : Rg x1 1 10 := rg_l2 (nleI c10465) k9562 k5 (by decide)
            refine lv_aload_n hx hb dX11_leastCost_72 rfl (lv_at hl 3 rfl) ?_
            refine va_get (D := D) (ci := 10) (v := .ref ak) (C := RX11) (T := TX11) (N := 26) hx hb hts iG_X11 hown hK hP 1 rfl rfl 18 (by decide) (hts _ w5_13) (fun _ h9 => h9) rfl dX11_leastCost_73 ?_
            refine lv_iload_n hx hb dX11_leastCost_76 rfl (lv_at hl 1 rfl) ?_
            refine va_iald hx hb hK hP 5 0 rfl rfl (rg_in k10468 (by decide)) dX11_leastCost_77 ?_
            refine lv_topi (fun x10470 ex10470 => ?_)
            have k10471 : Rg x10470 0 4095 := wK_rd k7 ex10470
            refine lv_iload_n hx hb dX11_leastCost_78 rfl (lv_at hl 0 rfl) ?_
            refine kpurei (wc := []) hP hD hS hA [] rfl (by decide) (fun hPc hDc hFc => va_runS (As := [.int x10470, .int y10452]) (rest := []) ⟨hx, hb, hml, hown, hts⟩ (r_hasx l D cI cJ cB cC x10470 y10452 H.size) (va_cwS 2 hts gX11_leastCost_X11_has rfl rfl rfl hdX11_has ⟨Nat.le_of_ble_eq_true rfl, Nat.le_of_ble_eq_true rfl⟩) ⟨kBlind, fun U hU hW => ⟨rfl, by rw [hU], hN.warm hW, hE.pass hS hFc hW hU, by rw [hU]; exact hPc, va_K.moved hW.alike hK, hDc⟩⟩ rfl rfl hl.1 rfl (lv_room (Nat.le_of_ble_eq_true rfl)) dX11_leastCost_79 ⟨Nat.le_of_ble_eq_true rfl, Nat.le_of_ble_eq_true rfl⟩) (fun r10472 u H locs hw hP hS => ?_)
            obtain ⟨k10473, k10474, k10475⟩ := hw
            refine lv_if_eq (tgt := 130) hx hb dX11_leastCost_82 (by decide) (fun c10507 => ?_) (fun c10507 => ?_)
            · skip
              have k10508 : Rg r10472 0 0 := rg_q1 (eqI c10507) k10474 (rg_lit (n := 0) (by decide)) (by decide)
              obtain ⟨x10509, ex10509⟩ : ∃ y : Int32, y = y10452 + 1 := ⟨_, rfl⟩
              refine lv_iinc (v := x10509) (lv' := [(3, .int x10509), (2, .int r7666), (1, .int y7657), (0, .ref h)]) hx hb dX11_leastCost_130 hl (k := 0) rfl (by rw [ex10509]; rfl) (by decide) rfl (fun ls hl => ?_)
              have k10510 : Rg x10509 1 12 := rg_add ex10509 k10463 (rg_lit (n := 1) (by decide)) (by decide)
              refine lv_goto (tgt := 56) hx hb dX11_leastCost_133 (by decide) ?_
              exact ih10455 (x10509, g10453, g10454) _ _ _ (by show (12 - (x10509).toInt).toNat < (12 - (y10452).toInt).toNat; exact mu_up ex10509 k10463 k10510 (by decide)) ⟨(by rw [(s1_cN (by have q1 := k10463; unfold Rg at q1; omega) (ti_add (Y := 1) ex10509 k10463 (rg_lit (n := 1) (by decide)) (by decide) rfl (by decide)))]; exact inC_skip hX56_0 (nelig1 ex10470 (cl_of (k := cN r7666) k10468 (by decide) (by simp only [cN]; have q1 := k10468; unfold Rg at q1; omega)) k10473 k10471 (rg_w k10463 (by decide)) (Int32.toInt_inj.mp (eqI c10507)))), (by have q1 := (by have q1 := (nleI c10460); rw [k11] at q1; exact q1); have q2 := (ti_add (Y := 1) ex10509 k10463 (rg_lit (n := 1) (by decide)) (by decide) rfl (by decide)); omega), (hF2.trans (kIter_go (kC_eq rfl (kC_eq rfl (kLet_eq (k10459).symm (kif_f (xF_le c10460) (kif_f (xF_le c10465) (kLet_eq (ke_ld ex10470) (kLet_eq (k10475).symm (kif_t (eqI c10507) (kLet_eq (ti_add ex10509 k10463 (rg_lit (n := 1) (by decide)) (by decide) rfl rfl) rfl))))))))))), (rg_w k10510 (by decide)), hg10453_0, hP.sub (ws' := [(aC, kcI cI 4096 g10453), (h, oX11 th aw ai ab ac hi re aP ta po en be de fa a5 sp av an ak x1 aW aC ag aT aN aF), (aw, kcI cI 2179 fw), (av, kcI cI 400 g10454), (an, kcI cI 10 g3), (ak, kcI cI 10 g4)]) [0, 1, 2, 3, 4, 5] rfl, hD.sub (ws' := [(aC, kcI cI 4096 g10453), (h, oX11 th aw ai ab ac hi re aP ta po en be de fa a5 sp av an ak x1 aW aC ag aT aN aF), (aw, kcI cI 2179 fw), (av, kcI cI 400 g10454), (an, kcI cI 10 g3), (ak, kcI cI 10 g4)]) [0, 1, 2, 3, 4, 5] (by decide) rfl, hS, lv_sub (l' := [(3, .int x10509), (2, .int r7666), (1, .int y7657), (0, .ref h)]) hl [0, 1, 2, 3] rfl⟩
            · skip
              have k10511 : Rg r10472 1 1 := rg_n1 (neI c10507) k10474 (rg_lit (n := 0) (by decide)) (by decide)
              refine lv_iload_n hx hb dX11_leastCost_85 rfl (lv_at hl 2 rfl) ?_
              refine lv_iload_n hx hb dX11_leastCost_86 rfl (lv_at hl 0 rfl) ?_
              refine kpurei (wc := []) hP hD hS hA [] rfl (by decide) (fun hPc hDc hFc => va_runS (As := [.int y7657, .int y10452]) (rest := []) ⟨hx, hb, hml, hown, hts⟩ (r_hasx l D cI cJ cB cC y7657 y10452 H.size) (va_cwS 2 hts gX11_leastCost_X11_has rfl rfl rfl hdX11_has ⟨Nat.le_of_ble_eq_true rfl, Nat.le_of_ble_eq_true rfl⟩) ⟨kBlind, fun U hU hW => ⟨rfl, by rw [hU], hN.warm hW, hE.pass hS hFc hW hU, by rw [hU]; exact hPc, va_K.moved hW.alike hK, hDc⟩⟩ rfl rfl hl.1 rfl (lv_room (Nat.le_of_ble_eq_true rfl)) dX11_leastCost_87 ⟨Nat.le_of_ble_eq_true rfl, Nat.le_of_ble_eq_true rfl⟩) (fun r10512 u H locs hw hP hS => ?_)
              obtain ⟨k10513, k10514, k10515⟩ := hw
              refine lv_if_ne (tgt := 130) hx hb dX11_leastCost_90 (by decide) (fun c10516 => ?_) (fun c10516 => ?_)
              · skip
                have k10517 : Rg r10512 1 1 := rg_n1 (neI c10516) k10514 (rg_lit (n := 0) (by decide)) (by decide)
                obtain ⟨x10518, ex10518⟩ : ∃ y : Int32, y = y10452 + 1 := ⟨_, rfl⟩
                refine lv_iinc (v := x10518) (lv' := [(3, .int x10518), (2, .int r7666), (1, .int y7657), (0, .ref h)]) hx hb dX11_leastCost_130 hl (k := 0) rfl (by rw [ex10518]; rfl) (by decide) rfl (fun ls hl => ?_)
                have k10519 : Rg x10518 1 12 := rg_add ex10518 k10463 (rg_lit (n := 1) (by decide)) (by decide)
                refine lv_goto (tgt := 56) hx hb dX11_leastCost_133 (by decide) ?_
                exact ih10455 (x10518, g10453, g10454) _ _ _ (by show (12 - (x10518).toInt).toNat < (12 - (y10452).toInt).toNat; exact mu_up ex10518 k10463 k10519 (by decide)) ⟨(by rw [(s1_cN (by have q1 := k10463; unfold Rg at q1; omega) (ti_add (Y := 1) ex10518 k10463 (rg_lit (n := 1) (by decide)) (by decide) rfl (by decide)))]; exact inC_skip hX56_0 (nelig2 k10513 k7665 (rg_w k10463 (by decide)) c10516)), (by have q1 := (by have q1 := (nleI c10460); rw [k11] at q1; exact q1); have q2 := (ti_add (Y := 1) ex10518 k10463 (rg_lit (n := 1) (by decide)) (by decide) rfl (by decide)); omega), (hF2.trans (kIter_go (kC_eq rfl (kC_eq rfl (kLet_eq (k10459).symm (kif_f (xF_le c10460) (kif_f (xF_le c10465) (kLet_eq (ke_ld ex10470) (kLet_eq (k10475).symm (kif_f (neI c10507) (kLet_eq (k10515).symm (kif_f (neI c10516) (kLet_eq (ti_add ex10518 k10463 (rg_lit (n := 1) (by decide)) (by decide) rfl rfl) rfl))))))))))))), (rg_w k10519 (by decide)), hg10453_0, hP.sub (ws' := [(aC, kcI cI 4096 g10453), (h, oX11 th aw ai ab ac hi re aP ta po en be de fa a5 sp av an ak x1 aW aC ag aT aN aF), (aw, kcI cI 2179 fw), (av, kcI cI 400 g10454), (an, kcI cI 10 g3), (ak, kcI cI 10 g4)]) [0, 1, 2, 3, 4, 5] rfl, hD.sub (ws' := [(aC, kcI cI 4096 g10453), (h, oX11 th aw ai ab ac hi re aP ta po en be de fa a5 sp av an ak x1 aW aC ag aT aN aF), (aw, kcI cI 2179 fw), (av, kcI cI 400 g10454), (an, kcI cI 10 g3), (ak, kcI cI 10 g4)]) [0, 1, 2, 3, 4, 5] (by decide) rfl, hS, lv_sub (l' := [(3, .int x10518), (2, .int r7666), (1, .int y7657), (0, .ref h)]) hl [0, 1, 2, 3] rfl⟩
              · skip
                have k10520 : Rg r10512 0 0 := rg_q1 (eqI c10516) k10514 (rg_lit (n := 0) (by decide)) (by decide)
                refine lv_aload_n hx hb dX11_leastCost_93 rfl (lv_at hl 3 rfl) ?_
                refine va_get (D := D) (ci := 10) (v := .ref aC) (C := RX11) (T := TX11) (N := 26) hx hb hts iG_X11 hown hK hP 1 rfl rfl 21 (by decide) (hts _ w5_15) (fun _ h9 => h9) rfl dX11_leastCost_94 ?_
                refine lv_iload_n hx hb dX11_leastCost_97 rfl (lv_at hl 2 rfl) ?_
                refine lv_aload_n hx hb dX11_leastCost_98 rfl (lv_at hl 3 rfl) ?_
                refine va_get (D := D) (ci := 10) (v := .ref aC) (C := RX11) (T := TX11) (N := 26) hx hb hts iG_X11 hown hK hP 1 rfl rfl 21 (by decide) (hts _ w5_15) (fun _ h9 => h9) rfl dX11_leastCost_99 ?_
                refine lv_iload_n hx hb dX11_leastCost_102 rfl (lv_at hl 2 rfl) ?_
                refine va_iald hx hb hK hP 0 0 rfl rfl (rg_in k7665 (by decide)) dX11_leastCost_103 ?_
                refine lv_topi (fun x10521 ex10521 => ?_)
                have k10522 : Rg x10521 0 1000000 := wF_rd hg10453_0 ex10521
                refine lv_aload_n hx hb dX11_leastCost_104 rfl (lv_at hl 3 rfl) ?_
                refine lv_aload_n hx hb dX11_leastCost_105 rfl (lv_at hl 3 rfl) ?_
                refine va_get (D := D) (ci := 10) (v := .ref an) (C := RX11) (T := TX11) (N := 26) hx hb hts iG_X11 hown hK hP 1 rfl rfl 17 (by decide) (hts _ w5_12) (fun _ h9 => h9) rfl dX11_leastCost_106 ?_
                refine lv_iload_n hx hb dX11_leastCost_109 rfl (lv_at hl 1 rfl) ?_
                refine va_iald hx hb hK hP 4 0 rfl rfl (rg_in k10468 (by decide)) dX11_leastCost_110 ?_
                refine lv_topi (fun x10523 ex10523 => ?_)
                have k10524 : Rg x10523 0 9 := wN_rd k6 ex10523
                refine lv_iload_n hx hb dX11_leastCost_111 rfl (lv_at hl 0 rfl) ?_
                refine kcalli (wc := [(h, oX11 th aw ai ab ac hi re aP ta po en be de fa a5 sp av an ak x1 aW aC ag aT aN aF), (aw, kcI cI 2179 fw), (av, kcI cI 400 g10454)]) (wr := [(aC, kcI cI 4096 g10453), (an, kcI cI 10 g3), (ak, kcI cI 10 g4)]) hP hD hS hA [1, 2, 3] [0, 4, 5] rfl rfl (by decide) (by decide) (by decide) (fun hPc hDc hFc => va_runV (As := [.int x10523, .int y10452]) (rest := [.int x10521, .int y7657, .ref aC]) ⟨hx, hb, hml, hown, hts⟩ (r_costOfx l D cI cJ cB cC h th aw ai ab ac hi re aP ta po en be de fa a5 sp av an ak x1 aW aC ag aT aN aF fw g10454 x10523 y10452 H.size k10524 k10463 H_fw_W H_fw_L) (cwV 2 hts gX11_leastCost_X11_costOf rfl rfl rfl ⟨rfl, hdX11_costOf⟩ ⟨Nat.le_of_ble_eq_true rfl, Nat.le_of_ble_eq_true rfl⟩) ⟨kBlind, va_recv hK hPc (ci := 10) (q0 := 0) rfl rfl, fun U hU hW => ⟨rfl, by rw [hU], hN.warm hW, hE.pass hS hFc hW hU, by rw [hU]; exact hPc, va_K.moved hW.alike hK, hDc⟩⟩ rfl rfl hl.1 rfl (lv_room (Nat.le_of_ble_eq_true rfl)) dX11_leastCost_112 ⟨Nat.le_of_ble_eq_true rfl, Nat.le_of_ble_eq_true rfl⟩) (fun r10525 u H locs hw hP hD hS => ?_)
                obtain ⟨g10526, rfl⟩ : ∃ z, z = u := ⟨_, rfl⟩
                have hP : va_P D vwCl [(aC, kcI cI 4096 g10453), (an, kcI cI 10 g3), (ak, kcI cI 10 g4), (h, oX11 th aw ai ab ac hi re aP ta po en be de fa a5 sp av an ak x1 aW aC ag aT aN aF), (aw, kcI cI 2179 fw), (av, kcI cI 400 g10526)] H := hP
                have hD : va_D A [(aC, kcI cI 4096 g10453), (an, kcI cI 10 g3), (ak, kcI cI 10 g4), (h, oX11 th aw ai ab ac hi re aP ta po en be de fa a5 sp av an ak x1 aW aC ag aT aN aF), (aw, kcI cI 2179 fw), (av, kcI cI 400 g10526)] := hD
                obtain ⟨k10527, k10528, k10529⟩ := hw
                refine lv_aload_n hx hb dX11_leastCost_115 rfl (lv_at hl 3 rfl) ?_
                refine va_get (D := D) (ci := 10) (v := .ref aC) (C := RX11) (T := TX11) (N := 26) hx hb hts iG_X11 hown hK hP 3 rfl rfl 21 (by decide) (hts _ w5_15) (fun _ h9 => h9) rfl dX11_leastCost_116 ?_
                refine lv_iload_n hx hb dX11_leastCost_119 rfl (lv_at hl 2 rfl) ?_
                refine lv_iconst (v := 1) hx hb dX11_leastCost_120 (by decide) ?_
                refine lv_iload_n hx hb dX11_leastCost_121 rfl (lv_at hl 0 rfl) ?_
                refine lv_ishl hx hb dX11_leastCost_122 ?_
                refine lv_topi (fun x10530 ex10530 => ?_)
                have k10531 : Rg x10530 1 2048 := rg_shl1 11 ex10530 k10463 (by decide)
                refine lv_ior hx hb dX11_leastCost_123 ?_
                refine lv_topi (fun x10532 ex10532 => ?_)
                have k10533 : Rg x10532 0 4095 := rg_or 12 ex10532 k7665 k10531 (by decide)
                refine va_iald hx hb hK hP 0 0 rfl rfl (rg_in k10533 (by decide)) dX11_leastCost_124 ?_
                refine lv_topi (fun x10534 ex10534 => ?_)
                have k10535 : Rg x10534 0 1000000 := wF_rd hg10453_0 ex10534
                refine lv_iadd hx hb dX11_leastCost_125 ?_
                refine lv_topi (fun x10536 ex10536 => ?_)
                have tx10536 : x10536.toInt = r10525.toInt + x10534.toInt := ti_add ex10536 k10528 k10535 (by decide) rfl rfl
                have k10537 : Rg x10536 0 1011988 := rg_add ex10536 k10528 k10535 (by decide)
                refine va_mmin hx hb (by rw [hml]; exact hl.1.symm) hown (hts _ w34_13) (hts _ w24_21) (hts _ w8_7) (hts _ w24_22) (Nat.le_of_ble_eq_true rfl) (Nat.le_of_ble_eq_true rfl) (Nat.le_of_ble_eq_true rfl) (Nat.le_of_ble_eq_true rfl) dX11_leastCost_126 ?_
                refine lv_topi (fun x10538 ex10538 => ?_)
                have k10539 : Rg x10538 0 1000000 := rg_min ex10538 k10522 k10537 (by decide)
                refine va_iast hx hb hK hP hD hS 0 0 rfl rfl (rg_in k7665 (by decide)) dX11_leastCost_129 (fun H locs hP hD hS => ?_)
                have hP : va_P D vwCl [(aC, kcI cI 4096 (upd g10453 y7657.toNatClampNeg x10538)), (an, kcI cI 10 g3), (ak, kcI cI 10 g4), (h, oX11 th aw ai ab ac hi re aP ta po en be de fa a5 sp av an ak x1 aW aC ag aT aN aF), (aw, kcI cI 2179 fw), (av, kcI cI 400 g10526)] H := hP
                have hD : va_D A [(aC, kcI cI 4096 (upd g10453 y7657.toNatClampNeg x10538)), (an, kcI cI 10 g3), (ak, kcI cI 10 g4), (h, oX11 th aw ai ab ac hi re aP ta po en be de fa a5 sp av an ak x1 aW aC ag aT aN aF), (aw, kcI cI 2179 fw), (av, kcI cI 400 g10526)] := hD
                have k10541 : wF (upd g10453 y7657.toNatClampNeg x10538) := wF_upd hg10453_0 k10539
                generalize hg10540 : (upd g10453 y7657.toNatClampNeg x10538) = g10540 at hP hD k10541
                obtain ⟨x10542, ex10542⟩ : ∃ y : Int32, y = y10452 + 1 := ⟨_, rfl⟩
                refine lv_iinc (v := x10542) (lv' := [(3, .int x10542), (2, .int r7666), (1, .int y7657), (0, .ref h)]) hx hb dX11_leastCost_130 hl (k := 0) rfl (by rw [ex10542]; rfl) (by decide) rfl (fun ls hl => ?_)
                have k10543 : Rg x10542 1 12 := rg_add ex10542 k10463 (rg_lit (n := 1) (by decide)) (by decide)
                refine lv_goto (tgt := 56) hx hb dX11_leastCost_133 (by decide) ?_
                exact ih10455 (x10542, g10540, g10526) _ _ _ (by show (12 - (x10542).toInt).toNat < (12 - (y10452).toInt).toNat; exact mu_up ex10542 k10463 k10543 (by decide)) ⟨(by rw [(s1_cN (by have q1 := k10463; unfold Rg at q1; omega) (ti_add (Y := 1) ex10542 k10463 (rg_lit (n := 1) (by decide)) (by decide) rfl (by decide)))]; exact inC_go hX56_0 (cn_lt2 (nleI c10465) (by have q1 := k10468; unfold Rg at q1; omega)) (elig_of ex10470 (cl_of (k := cN r7666) k10468 (by decide) (by simp only [cN]; have q1 := k10468; unfold Rg at q1; omega)) k10473 k10471 (rg_w k10463 (by decide)) c10507 k10513 k7665 (Int32.toInt_inj.mp (eqI c10516))) (by rw [ex10521, (cl_of (k := cN y7657) k7665 (by decide) (by simp only [cN]; have q1 := k7665; unfold Rg at q1; omega))]) (by rw [ex10534, (cl_of (k := cN x10532) k10533 (by decide) (by simp only [cN]; have q1 := k10533; unfold Rg at q1; omega)), (or_bit ex10530 ex10532 k7665 (rg_w k10463 (by decide))).1]) k10527 (by rw [ex10523, (cl_of (k := cN r7666) k10468 (by decide) (by simp only [cN]; have q1 := k10468; unfold Rg at q1; omega))]) (nI_cN (rg_w k10463 (by decide) : Rg y10452 0 4095)) tx10536 ex10538 (by rw [← (cl_of (k := cN y7657) k7665 (by decide) (by simp only [cN]; have q1 := k7665; unfold Rg at q1; omega))]; exact hg10540)), (by have q1 := (by have q1 := (nleI c10460); rw [k11] at q1; exact q1); have q2 := (ti_add (Y := 1) ex10542 k10463 (rg_lit (n := 1) (by decide)) (by decide) rfl (by decide)); omega), (hF2.trans (kIter_go (kC_eq rfl (kC_eq rfl (kLet_eq (k10459).symm (kif_f (xF_le c10460) (kif_f (xF_le c10465) (kLet_eq (ke_ld ex10470) (kLet_eq (k10475).symm (kif_f (neI c10507) (kLet_eq (k10515).symm (kif_t (eqI c10516) (kLet_eq (ke_ld ex10521) (kLet_eq (ke_ld ex10523) (kC_eq k10529 (kLet_eq (ke_shl ex10530) (kLet_eq (ke_or ex10532) (kLet_eq (ke_ld ex10534) (kLet_eq (ti_add ex10536 k10528 k10535 (by decide) rfl rfl) (kLet_eq (ke_min ex10538) (kLet_eq (ke_st hg10540) (kLet_eq (ti_add ex10542 k10463 (rg_lit (n := 1) (by decide)) (by decide) rfl rfl) rfl)))))))))))))))))))))), (rg_w k10543 (by decide)), k10541, hP.sub (ws' := [(aC, kcI cI 4096 g10540), (h, oX11 th aw ai ab ac hi re aP ta po en be de fa a5 sp av an ak x1 aW aC ag aT aN aF), (aw, kcI cI 2179 fw), (av, kcI cI 400 g10526), (an, kcI cI 10 g3), (ak, kcI cI 10 g4)]) [0, 3, 4, 5, 1, 2] rfl, hD.sub (ws' := [(aC, kcI cI 4096 g10540), (h, oX11 th aw ai ab ac hi re aP ta po en be de fa a5 sp av an ak x1 aW aC ag aT aN aF), (aw, kcI cI 2179 fw), (av, kcI cI 400 g10526), (an, kcI cI 10 g3), (ak, kcI cI 10 g4)]) [0, 3, 4, 5, 1, 2] (by decide) rfl, hS, lv_sub (l' := [(3, .int x10542), (2, .int r7666), (1, .int y7657), (0, .ref h)]) hl [0, 1, 2, 3] rfl⟩
      · skip
        refine lv_iconst (v := 0) hx hb dX11_leastCost_46 (by decide) ?_
        refine lv_goto (tgt := 53) hx hb dX11_leastCost_47 (by decide) ?_
        refine va_iast hx hb hK hP hD hS 0 0 rfl rfl (rg_in k7665 (by decide)) dX11_leastCost_53 (fun H locs hP hD hS => ?_)
        have hP : va_P D vwCl [(aC, kcI cI 4096 (upd g7658 y7657.toNatClampNeg 0)), (h, oX11 th aw ai ab ac hi re aP ta po en be de fa a5 sp av an ak x1 aW aC ag aT aN aF), (aw, kcI cI 2179 fw), (av, kcI cI 400 g7659), (an, kcI cI 10 g3), (ak, kcI cI 10 g4)] H := hP
        have hD : va_D A [(aC, kcI cI 4096 (upd g7658 y7657.toNatClampNeg 0)), (h, oX11 th aw ai ab ac hi re aP ta po en be de fa a5 sp av an ak x1 aW aC ag aT aN aF), (aw, kcI cI 2179 fw), (av, kcI cI 400 g7659), (an, kcI cI 10 g3), (ak, kcI cI 10 g4)] := hD
        have k10545 : wF (upd g7658 y7657.toNatClampNeg 0) := wF_upd hg7658_0 (rg_w (rg_lit (n := 0) (by decide)) (by decide))
        generalize hg10544 : (upd g7658 y7657.toNatClampNeg 0) = g10544 at hP hD k10545
        refine lv_iconst (v := 0) hx hb dX11_leastCost_54 (by decide) ?_
        refine lv_istore_n (lv' := [(3, .int 0), (2, .int r7666), (1, .int y7657), (0, .ref h)]) hx hb dX11_leastCost_55 rfl hl (by decide) rfl (fun ls hl => ?_)
        refine k_loop (hd := 56) (fun (u : Int32 × (Nat → Int32) × (Nat → Int32)) => match u with | (y11431, g11432, g11433) => (12 - (y11431).toInt).toNat) (fun (u : Int32 × (Nat → Int32) × (Nat → Int32)) (H : Heap) (locs : List Loc) (ls : Array Slot) => match u with | (y11431, g11432, g11433) => (inC g11432 (fun k9 s9 => (cF fw (g3 k9) (nI s9)).toInt) g4 (cN x1) (cN (fw 1)) (cN y7657) (cN r7666) (cN y11431)) ∧ ((y11431 : Int32).toInt ≤ (fw 1).toInt) ∧ (F_r_leastCostx_l1_s (gT fw) x1.toInt (gT g3) (gT g4) r10.toInt (y7657.toInt, (gT g7658), (gT g7659)) = F_r_leastCostx_l3 (gT fw) x1.toInt (gT g3) (gT g4) r10.toInt y7657.toInt r7666.toInt (y11431.toInt, (gT g11432), (gT g11433))) ∧ Rg y11431 0 12 ∧ wF g11432 ∧ va_P D vwCl [(aC, kcI cI 4096 g11432), (h, oX11 th aw ai ab ac hi re aP ta po en be de fa a5 sp av an ak x1 aW aC ag aT aN aF), (aw, kcI cI 2179 fw), (av, kcI cI 400 g11433), (an, kcI cI 10 g3), (ak, kcI cI 10 g4)] H ∧ va_D A [(aC, kcI cI 4096 g11432), (h, oX11 th aw ai ab ac hi re aP ta po en be de fa a5 sp av an ak x1 aW aC ag aT aN aF), (aw, kcI cI 2179 fw), (av, kcI cI 400 g11433), (an, kcI cI 10 g3), (ak, kcI cI 10 g4)] ∧ va_S A s.heap H locs ∧ lv_has ls 4 [(3, .int y11431), (2, .int r7666), (1, .int y7657), (0, .ref h)]) ((0 : Int32), g10544, g7659) ⟨(by have q0 : cN (0 : Int32) = 0 := (by decide); rw [q0]; exact inC_new (tC_in hX13_0 (by have q1 := k7665; unfold Rg at q1; omega)) (by rw [← (cl_of (k := cN y7657) k7665 (by decide) (by simp only [cN]; have q1 := k7665; unfold Rg at q1; omega))]; exact hg10544) (kc_pop k7667 k7665) (cn_le (leI c9561)) (cn_lt hX13_1 (by have q1 := k7665; unfold Rg at q1; omega)) (Or.inl ⟨cn_eq (eqI c9564), rfl⟩)), (by rw [← k11]; have q1 := k12; unfold Rg at q1; have q2 : (0 : Int32).toInt = 0 := (by decide); omega), (kC_eq rfl (kC_eq rfl (kif_f (xF_lt c7661) (kLet_eq (k7669).symm (kif_t (leI c9561) (kif_t (eqI c9564) (kLet_eq (ke_st hg10544) rfl))))))), (rg_w (rg_lit (n := 0) (by decide)) (by decide)), k10545, hP.sub (ws' := [(aC, kcI cI 4096 g10544), (h, oX11 th aw ai ab ac hi re aP ta po en be de fa a5 sp av an ak x1 aW aC ag aT aN aF), (aw, kcI cI 2179 fw), (av, kcI cI 400 g7659), (an, kcI cI 10 g3), (ak, kcI cI 10 g4)]) [0, 1, 2, 3, 4, 5] rfl, hD.sub (ws' := [(aC, kcI cI 4096 g10544), (h, oX11 th aw ai ab ac hi re aP ta po en be de fa a5 sp av an ak x1 aW aC ag aT aN aF), (aw, kcI cI 2179 fw), (av, kcI cI 400 g7659), (an, kcI cI 10 g3), (ak, kcI cI 10 g4)]) [0, 1, 2, 3, 4, 5] (by decide) rfl, hS, lv_sub (l' := [(3, .int 0), (2, .int r7666), (1, .int y7657), (0, .ref h)]) hl [0, 1, 2, 3] rfl⟩ (fun u H locs ls hI ih11434 => ?_)
        clear hP hD hS hl
        obtain ⟨y11431, g11432, g11433⟩ := u
        obtain ⟨hX56_0, hX56_1, hF3, hy11431, hg11432_0, hP, hD, hS, hl⟩ := hI
        have hP : va_P D vwCl [(aC, kcI cI 4096 g11432), (h, oX11 th aw ai ab ac hi re aP ta po en be de fa a5 sp av an ak x1 aW aC ag aT aN aF), (aw, kcI cI 2179 fw), (av, kcI cI 400 g11433), (an, kcI cI 10 g3), (ak, kcI cI 10 g4)] H := hP
        have hD : va_D A [(aC, kcI cI 4096 g11432), (h, oX11 th aw ai ab ac hi re aP ta po en be de fa a5 sp av an ak x1 aW aC ag aT aN aF), (aw, kcI cI 2179 fw), (av, kcI cI 400 g11433), (an, kcI cI 10 g3), (ak, kcI cI 10 g4)] := hD
        have hl : lv_has ls 4 [(3, .int y11431), (2, .int r7666), (1, .int y7657), (0, .ref h)] := hl
        refine lv_iload_n hx hb dX11_leastCost_56 rfl (lv_at hl 0 rfl) ?_
        refine lv_aload_n hx hb dX11_leastCost_57 rfl (lv_at hl 3 rfl) ?_
        refine kpurei (wc := [(h, oX11 th aw ai ab ac hi re aP ta po en be de fa a5 sp av an ak x1 aW aC ag aT aN aF), (aw, kcI cI 2179 fw)]) hP hD hS hA [1, 2] rfl (by decide) (fun hPc hDc hFc => va_runV (As := []) (rest := [.int y11431]) ⟨hx, hb, hml, hown, hts⟩ (r_shirts l D cI cJ cB cC h th aw ai ab ac hi re aP ta po en be de fa a5 sp av an ak x1 aW aC ag aT aN aF fw H.size H_fw_W) (cwV 0 hts gX11_leastCost_X11_shirts rfl rfl rfl ⟨rfl, hdX11_shirts⟩ ⟨Nat.le_of_ble_eq_true rfl, Nat.le_of_ble_eq_true rfl⟩) ⟨kBlind, va_recv hK hPc (ci := 10) (q0 := 0) rfl rfl, fun U hU hW => ⟨rfl, by rw [hU], hN.warm hW, hE.pass hS hFc hW hU, by rw [hU]; exact hPc, va_K.moved hW.alike hK, hDc⟩⟩ rfl rfl hl.1 rfl (lv_room (Nat.le_of_ble_eq_true rfl)) dX11_leastCost_58 ⟨Nat.le_of_ble_eq_true rfl, Nat.le_of_ble_eq_true rfl⟩) (fun r11435 u H locs hw hP hS => ?_)
        obtain ⟨k11436, k11437, k11438⟩ := hw
        obtain rfl : r10 = r11435 := k11.trans k11436.symm
        refine lv_icmp_ge (tgt := 136) hx hb dX11_leastCost_61 (by decide) (fun c11439 => ?_) (fun c11439 => ?_)
        · skip
          obtain ⟨x11440, ex11440⟩ : ∃ y : Int32, y = y7657 + (-1) := ⟨_, rfl⟩
          refine lv_iinc (v := x11440) (lv' := [(1, .int x11440), (3, .int y11431), (2, .int r7666), (0, .ref h)]) hx hb dX11_leastCost_136 hl (k := 2) rfl (by rw [ex11440]; rfl) (by decide) rfl (fun ls hl => ?_)
          have k11441 : Rg x11440 (-1) 4094 := rg_add ex11440 k7665 (rg_lit (n := -1) (by decide)) (by decide)
          refine lv_goto (tgt := 13) hx hb dX11_leastCost_139 (by decide) ?_
          exact ih7660 (x11440, g11432, g11433) _ _ _ (by show ((x11440).toInt - (-1)).toNat < ((y7657).toInt - (-1)).toNat; exact mu_dn ex11440 k7665 k11441 (by decide)) ⟨(tC_out (tC_done hX56_0 (fun _ => Nat.le_antisymm (cn_le hX56_1) (cn_le (by have q1 := (leI c11439); rw [k11] at q1; exact q1)))) (ti_add (Y := -1) ex11440 k7665 (rg_lit (n := -1) (by decide)) (by decide) rfl (by decide))), (by have q1 := hX13_1; have q2 := (ti_add (Y := -1) ex11440 k7665 (rg_lit (n := -1) (by decide)) (by decide) rfl (by decide)); omega), (by have q1 := k7665; have q2 := (ti_add (Y := -1) ex11440 k7665 (rg_lit (n := -1) (by decide)) (by decide) rfl (by decide)); unfold Rg at q1; omega), (hF1.trans (kIter_go (hF3.trans (kIter_out (kC_eq rfl (kC_eq rfl (kLet_eq (k11438).symm (kif_t (leI c11439) (kLet_eq (ti_add ex11440 k7665 (rg_lit (n := -1) (by decide)) (by decide) rfl rfl) rfl))))))))), (rg_w k11441 (by decide)), hg11432_0, hP.sub (ws' := [(aC, kcI cI 4096 g11432), (h, oX11 th aw ai ab ac hi re aP ta po en be de fa a5 sp av an ak x1 aW aC ag aT aN aF), (aw, kcI cI 2179 fw), (av, kcI cI 400 g11433), (an, kcI cI 10 g3), (ak, kcI cI 10 g4)]) [0, 1, 2, 3, 4, 5] rfl, hD.sub (ws' := [(aC, kcI cI 4096 g11432), (h, oX11 th aw ai ab ac hi re aP ta po en be de fa a5 sp av an ak x1 aW aC ag aT aN aF), (aw, kcI cI 2179 fw), (av, kcI cI 400 g11433), (an, kcI cI 10 g3), (ak, kcI cI 10 g4)]) [0, 1, 2, 3, 4, 5] (by decide) rfl, hS, lv_sub (l' := [(1, .int x11440), (0, .ref h)]) hl [0, 3] rfl⟩
        · skip
          have k11442 : Rg y11431 0 11 := rg_l1 (nleI c11439) hy11431 k12 (by decide)
          have k11443 : Rg r10 1 12 := rg_l2 (nleI c11439) hy11431 k12 (by decide)
          refine lv_iload_n hx hb dX11_leastCost_64 rfl (lv_at hl 1 rfl) ?_
          refine lv_aload_n hx hb dX11_leastCost_65 rfl (lv_at hl 3 rfl) ?_
          refine va_get (D := D) (ci := 10) (v := .int x1) (C := RX11) (T := TX11) (N := 26) hx hb hts iG_X11 hown hK hP 1 rfl rfl 19 (by decide) (hts _ w40_7) (fun _ h9 => h9) rfl dX11_leastCost_66 ?_
          refine lv_icmp_ge (tgt := 136) hx hb dX11_leastCost_69 (by decide) (fun c11444 => ?_) (fun c11444 => ?_)
          · skip
            obtain ⟨x11445, ex11445⟩ : ∃ y : Int32, y = y7657 + (-1) := ⟨_, rfl⟩
            refine lv_iinc (v := x11445) (lv' := [(1, .int x11445), (3, .int y11431), (2, .int r7666), (0, .ref h)]) hx hb dX11_leastCost_136 hl (k := 2) rfl (by rw [ex11445]; rfl) (by decide) rfl (fun ls hl => ?_)
            have k11446 : Rg x11445 (-1) 4094 := rg_add ex11445 k7665 (rg_lit (n := -1) (by decide)) (by decide)
            refine lv_goto (tgt := 13) hx hb dX11_leastCost_139 (by decide) ?_
            exact ih7660 (x11445, g11432, g11433) _ _ _ (by show ((x11445).toInt - (-1)).toNat < ((y7657).toInt - (-1)).toNat; exact mu_dn ex11445 k7665 k11446 (by decide)) ⟨(tC_out (tC_done hX56_0 (fun q => absurd q (Nat.not_lt.mpr (cn_le (leI c11444))))) (ti_add (Y := -1) ex11445 k7665 (rg_lit (n := -1) (by decide)) (by decide) rfl (by decide))), (by have q1 := hX13_1; have q2 := (ti_add (Y := -1) ex11445 k7665 (rg_lit (n := -1) (by decide)) (by decide) rfl (by decide)); omega), (by have q1 := k7665; have q2 := (ti_add (Y := -1) ex11445 k7665 (rg_lit (n := -1) (by decide)) (by decide) rfl (by decide)); unfold Rg at q1; omega), (hF1.trans (kIter_go (hF3.trans (kIter_out (kC_eq rfl (kC_eq rfl (kLet_eq (k11438).symm (kif_f (xF_le c11439) (kif_t (leI c11444) (kLet_eq (ti_add ex11445 k7665 (rg_lit (n := -1) (by decide)) (by decide) rfl rfl) rfl)))))))))), (rg_w k11446 (by decide)), hg11432_0, hP.sub (ws' := [(aC, kcI cI 4096 g11432), (h, oX11 th aw ai ab ac hi re aP ta po en be de fa a5 sp av an ak x1 aW aC ag aT aN aF), (aw, kcI cI 2179 fw), (av, kcI cI 400 g11433), (an, kcI cI 10 g3), (ak, kcI cI 10 g4)]) [0, 1, 2, 3, 4, 5] rfl, hD.sub (ws' := [(aC, kcI cI 4096 g11432), (h, oX11 th aw ai ab ac hi re aP ta po en be de fa a5 sp av an ak x1 aW aC ag aT aN aF), (aw, kcI cI 2179 fw), (av, kcI cI 400 g11433), (an, kcI cI 10 g3), (ak, kcI cI 10 g4)]) [0, 1, 2, 3, 4, 5] (by decide) rfl, hS, lv_sub (l' := [(1, .int x11445), (0, .ref h)]) hl [0, 3] rfl⟩
          · skip
            have k11447 : Rg r7666 0 9 := rg_l1 (nleI c11444) k9562 k5 (by decide)
            have k11448 : Rg x1 1 10 := rg_l2 (nleI c11444) k9562 k5 (by decide)
            refine lv_aload_n hx hb dX11_leastCost_72 rfl (lv_at hl 3 rfl) ?_
            refine va_get (D := D) (ci := 10) (v := .ref ak) (C := RX11) (T := TX11) (N := 26) hx hb hts iG_X11 hown hK hP 1 rfl rfl 18 (by decide) (hts _ w5_13) (fun _ h9 => h9) rfl dX11_leastCost_73 ?_
            refine lv_iload_n hx hb dX11_leastCost_76 rfl (lv_at hl 1 rfl) ?_
            refine va_iald hx hb hK hP 5 0 rfl rfl (rg_in k11447 (by decide)) dX11_leastCost_77 ?_
            refine lv_topi (fun x11449 ex11449 => ?_)
            have k11450 : Rg x11449 0 4095 := wK_rd k7 ex11449
            refine lv_iload_n hx hb dX11_leastCost_78 rfl (lv_at hl 0 rfl) ?_
            refine kpurei (wc := []) hP hD hS hA [] rfl (by decide) (fun hPc hDc hFc => va_runS (As := [.int x11449, .int y11431]) (rest := []) ⟨hx, hb, hml, hown, hts⟩ (r_hasx l D cI cJ cB cC x11449 y11431 H.size) (va_cwS 2 hts gX11_leastCost_X11_has rfl rfl rfl hdX11_has ⟨Nat.le_of_ble_eq_true rfl, Nat.le_of_ble_eq_true rfl⟩) ⟨kBlind, fun U hU hW => ⟨rfl, by rw [hU], hN.warm hW, hE.pass hS hFc hW hU, by rw [hU]; exact hPc, va_K.moved hW.alike hK, hDc⟩⟩ rfl rfl hl.1 rfl (lv_room (Nat.le_of_ble_eq_true rfl)) dX11_leastCost_79 ⟨Nat.le_of_ble_eq_true rfl, Nat.le_of_ble_eq_true rfl⟩) (fun r11451 u H locs hw hP hS => ?_)
            obtain ⟨k11452, k11453, k11454⟩ := hw
            refine lv_if_eq (tgt := 130) hx hb dX11_leastCost_82 (by decide) (fun c11486 => ?_) (fun c11486 => ?_)
            · skip
              have k11487 : Rg r11451 0 0 := rg_q1 (eqI c11486) k11453 (rg_lit (n := 0) (by decide)) (by decide)
              obtain ⟨x11488, ex11488⟩ : ∃ y : Int32, y = y11431 + 1 := ⟨_, rfl⟩
              refine lv_iinc (v := x11488) (lv' := [(3, .int x11488), (2, .int r7666), (1, .int y7657), (0, .ref h)]) hx hb dX11_leastCost_130 hl (k := 0) rfl (by rw [ex11488]; rfl) (by decide) rfl (fun ls hl => ?_)
              have k11489 : Rg x11488 1 12 := rg_add ex11488 k11442 (rg_lit (n := 1) (by decide)) (by decide)
              refine lv_goto (tgt := 56) hx hb dX11_leastCost_133 (by decide) ?_
              exact ih11434 (x11488, g11432, g11433) _ _ _ (by show (12 - (x11488).toInt).toNat < (12 - (y11431).toInt).toNat; exact mu_up ex11488 k11442 k11489 (by decide)) ⟨(by rw [(s1_cN (by have q1 := k11442; unfold Rg at q1; omega) (ti_add (Y := 1) ex11488 k11442 (rg_lit (n := 1) (by decide)) (by decide) rfl (by decide)))]; exact inC_skip hX56_0 (nelig1 ex11449 (cl_of (k := cN r7666) k11447 (by decide) (by simp only [cN]; have q1 := k11447; unfold Rg at q1; omega)) k11452 k11450 (rg_w k11442 (by decide)) (Int32.toInt_inj.mp (eqI c11486)))), (by have q1 := (by have q1 := (nleI c11439); rw [k11] at q1; exact q1); have q2 := (ti_add (Y := 1) ex11488 k11442 (rg_lit (n := 1) (by decide)) (by decide) rfl (by decide)); omega), (hF3.trans (kIter_go (kC_eq rfl (kC_eq rfl (kLet_eq (k11438).symm (kif_f (xF_le c11439) (kif_f (xF_le c11444) (kLet_eq (ke_ld ex11449) (kLet_eq (k11454).symm (kif_t (eqI c11486) (kLet_eq (ti_add ex11488 k11442 (rg_lit (n := 1) (by decide)) (by decide) rfl rfl) rfl))))))))))), (rg_w k11489 (by decide)), hg11432_0, hP.sub (ws' := [(aC, kcI cI 4096 g11432), (h, oX11 th aw ai ab ac hi re aP ta po en be de fa a5 sp av an ak x1 aW aC ag aT aN aF), (aw, kcI cI 2179 fw), (av, kcI cI 400 g11433), (an, kcI cI 10 g3), (ak, kcI cI 10 g4)]) [0, 1, 2, 3, 4, 5] rfl, hD.sub (ws' := [(aC, kcI cI 4096 g11432), (h, oX11 th aw ai ab ac hi re aP ta po en be de fa a5 sp av an ak x1 aW aC ag aT aN aF), (aw, kcI cI 2179 fw), (av, kcI cI 400 g11433), (an, kcI cI 10 g3), (ak, kcI cI 10 g4)]) [0, 1, 2, 3, 4, 5] (by decide) rfl, hS, lv_sub (l' := [(3, .int x11488), (2, .int r7666), (1, .int y7657), (0, .ref h)]) hl [0, 1, 2, 3] rfl⟩
            · skip
              have k11490 : Rg r11451 1 1 := rg_n1 (neI c11486) k11453 (rg_lit (n := 0) (by decide)) (by decide)
              refine lv_iload_n hx hb dX11_leastCost_85 rfl (lv_at hl 2 rfl) ?_
              refine lv_iload_n hx hb dX11_leastCost_86 rfl (lv_at hl 0 rfl) ?_
              refine kpurei (wc := []) hP hD hS hA [] rfl (by decide) (fun hPc hDc hFc => va_runS (As := [.int y7657, .int y11431]) (rest := []) ⟨hx, hb, hml, hown, hts⟩ (r_hasx l D cI cJ cB cC y7657 y11431 H.size) (va_cwS 2 hts gX11_leastCost_X11_has rfl rfl rfl hdX11_has ⟨Nat.le_of_ble_eq_true rfl, Nat.le_of_ble_eq_true rfl⟩) ⟨kBlind, fun U hU hW => ⟨rfl, by rw [hU], hN.warm hW, hE.pass hS hFc hW hU, by rw [hU]; exact hPc, va_K.moved hW.alike hK, hDc⟩⟩ rfl rfl hl.1 rfl (lv_room (Nat.le_of_ble_eq_true rfl)) dX11_leastCost_87 ⟨Nat.le_of_ble_eq_true rfl, Nat.le_of_ble_eq_true rfl⟩) (fun r11491 u H locs hw hP hS => ?_)
              obtain ⟨k11492, k11493, k11494⟩ := hw
              refine lv_if_ne (tgt := 130) hx hb dX11_leastCost_90 (by decide) (fun c11495 => ?_) (fun c11495 => ?_)
              · skip
                have k11496 : Rg r11491 1 1 := rg_n1 (neI c11495) k11493 (rg_lit (n := 0) (by decide)) (by decide)
                obtain ⟨x11497, ex11497⟩ : ∃ y : Int32, y = y11431 + 1 := ⟨_, rfl⟩
                refine lv_iinc (v := x11497) (lv' := [(3, .int x11497), (2, .int r7666), (1, .int y7657), (0, .ref h)]) hx hb dX11_leastCost_130 hl (k := 0) rfl (by rw [ex11497]; rfl) (by decide) rfl (fun ls hl => ?_)
                have k11498 : Rg x11497 1 12 := rg_add ex11497 k11442 (rg_lit (n := 1) (by decide)) (by decide)
                refine lv_goto (tgt := 56) hx hb dX11_leastCost_133 (by decide) ?_
                exact ih11434 (x11497, g11432, g11433) _ _ _ (by show (12 - (x11497).toInt).toNat < (12 - (y11431).toInt).toNat; exact mu_up ex11497 k11442 k11498 (by decide)) ⟨(by rw [(s1_cN (by have q1 := k11442; unfold Rg at q1; omega) (ti_add (Y := 1) ex11497 k11442 (rg_lit (n := 1) (by decide)) (by decide) rfl (by decide)))]; exact inC_skip hX56_0 (nelig2 k11492 k7665 (rg_w k11442 (by decide)) c11495)), (by have q1 := (by have q1 := (nleI c11439); rw [k11] at q1; exact q1); have q2 := (ti_add (Y := 1) ex11497 k11442 (rg_lit (n := 1) (by decide)) (by decide) rfl (by decide)); omega), (hF3.trans (kIter_go (kC_eq rfl (kC_eq rfl (kLet_eq (k11438).symm (kif_f (xF_le c11439) (kif_f (xF_le c11444) (kLet_eq (ke_ld ex11449) (kLet_eq (k11454).symm (kif_f (neI c11486) (kLet_eq (k11494).symm (kif_f (neI c11495) (kLet_eq (ti_add ex11497 k11442 (rg_lit (n := 1) (by decide)) (by decide) rfl rfl) rfl))))))))))))), (rg_w k11498 (by decide)), hg11432_0, hP.sub (ws' := [(aC, kcI cI 4096 g11432), (h, oX11 th aw ai ab ac hi re aP ta po en be de fa a5 sp av an ak x1 aW aC ag aT aN aF), (aw, kcI cI 2179 fw), (av, kcI cI 400 g11433), (an, kcI cI 10 g3), (ak, kcI cI 10 g4)]) [0, 1, 2, 3, 4, 5] rfl, hD.sub (ws' := [(aC, kcI cI 4096 g11432), (h, oX11 th aw ai ab ac hi re aP ta po en be de fa a5 sp av an ak x1 aW aC ag aT aN aF), (aw, kcI cI 2179 fw), (av, kcI cI 400 g11433), (an, kcI cI 10 g3), (ak, kcI cI 10 g4)]) [0, 1, 2, 3, 4, 5] (by decide) rfl, hS, lv_sub (l' := [(3, .int x11497), (2, .int r7666), (1, .int y7657), (0, .ref h)]) hl [0, 1, 2, 3] rfl⟩
              · skip
                have k11499 : Rg r11491 0 0 := rg_q1 (eqI c11495) k11493 (rg_lit (n := 0) (by decide)) (by decide)
                refine lv_aload_n hx hb dX11_leastCost_93 rfl (lv_at hl 3 rfl) ?_
                refine va_get (D := D) (ci := 10) (v := .ref aC) (C := RX11) (T := TX11) (N := 26) hx hb hts iG_X11 hown hK hP 1 rfl rfl 21 (by decide) (hts _ w5_15) (fun _ h9 => h9) rfl dX11_leastCost_94 ?_
                refine lv_iload_n hx hb dX11_leastCost_97 rfl (lv_at hl 2 rfl) ?_
                refine lv_aload_n hx hb dX11_leastCost_98 rfl (lv_at hl 3 rfl) ?_
                refine va_get (D := D) (ci := 10) (v := .ref aC) (C := RX11) (T := TX11) (N := 26) hx hb hts iG_X11 hown hK hP 1 rfl rfl 21 (by decide) (hts _ w5_15) (fun _ h9 => h9) rfl dX11_leastCost_99 ?_
                refine lv_iload_n hx hb dX11_leastCost_102 rfl (lv_at hl 2 rfl) ?_
                refine va_iald hx hb hK hP 0 0 rfl rfl (rg_in k7665 (by decide)) dX11_leastCost_103 ?_
                refine lv_topi (fun x11500 ex11500 => ?_)
                have k11501 : Rg x11500 0 1000000 := wF_rd hg11432_0 ex11500
                refine lv_aload_n hx hb dX11_leastCost_104 rfl (lv_at hl 3 rfl) ?_
                refine lv_aload_n hx hb dX11_leastCost_105 rfl (lv_at hl 3 rfl) ?_
                refine va_get (D := D) (ci := 10) (v := .ref an) (C := RX11) (T := TX11) (N := 26) hx hb hts iG_X11 hown hK hP 1 rfl rfl 17 (by decide) (hts _ w5_12) (fun _ h9 => h9) rfl dX11_leastCost_106 ?_
                refine lv_iload_n hx hb dX11_leastCost_109 rfl (lv_at hl 1 rfl) ?_
                refine va_iald hx hb hK hP 4 0 rfl rfl (rg_in k11447 (by decide)) dX11_leastCost_110 ?_
                refine lv_topi (fun x11502 ex11502 => ?_)
                have k11503 : Rg x11502 0 9 := wN_rd k6 ex11502
                refine lv_iload_n hx hb dX11_leastCost_111 rfl (lv_at hl 0 rfl) ?_
                refine kcalli (wc := [(h, oX11 th aw ai ab ac hi re aP ta po en be de fa a5 sp av an ak x1 aW aC ag aT aN aF), (aw, kcI cI 2179 fw), (av, kcI cI 400 g11433)]) (wr := [(aC, kcI cI 4096 g11432), (an, kcI cI 10 g3), (ak, kcI cI 10 g4)]) hP hD hS hA [1, 2, 3] [0, 4, 5] rfl rfl (by decide) (by decide) (by decide) (fun hPc hDc hFc => va_runV (As := [.int x11502, .int y11431]) (rest := [.int x11500, .int y7657, .ref aC]) ⟨hx, hb, hml, hown, hts⟩ (r_costOfx l D cI cJ cB cC h th aw ai ab ac hi re aP ta po en be de fa a5 sp av an ak x1 aW aC ag aT aN aF fw g11433 x11502 y11431 H.size k11503 k11442 H_fw_W H_fw_L) (cwV 2 hts gX11_leastCost_X11_costOf rfl rfl rfl ⟨rfl, hdX11_costOf⟩ ⟨Nat.le_of_ble_eq_true rfl, Nat.le_of_ble_eq_true rfl⟩) ⟨kBlind, va_recv hK hPc (ci := 10) (q0 := 0) rfl rfl, fun U hU hW => ⟨rfl, by rw [hU], hN.warm hW, hE.pass hS hFc hW hU, by rw [hU]; exact hPc, va_K.moved hW.alike hK, hDc⟩⟩ rfl rfl hl.1 rfl (lv_room (Nat.le_of_ble_eq_true rfl)) dX11_leastCost_112 ⟨Nat.le_of_ble_eq_true rfl, Nat.le_of_ble_eq_true rfl⟩) (fun r11504 u H locs hw hP hD hS => ?_)
                obtain ⟨g11505, rfl⟩ : ∃ z, z = u := ⟨_, rfl⟩
                have hP : va_P D vwCl [(aC, kcI cI 4096 g11432), (an, kcI cI 10 g3), (ak, kcI cI 10 g4), (h, oX11 th aw ai ab ac hi re aP ta po en be de fa a5 sp av an ak x1 aW aC ag aT aN aF), (aw, kcI cI 2179 fw), (av, kcI cI 400 g11505)] H := hP
                have hD : va_D A [(aC, kcI cI 4096 g11432), (an, kcI cI 10 g3), (ak, kcI cI 10 g4), (h, oX11 th aw ai ab ac hi re aP ta po en be de fa a5 sp av an ak x1 aW aC ag aT aN aF), (aw, kcI cI 2179 fw), (av, kcI cI 400 g11505)] := hD
                obtain ⟨k11506, k11507, k11508⟩ := hw
                refine lv_aload_n hx hb dX11_leastCost_115 rfl (lv_at hl 3 rfl) ?_
                refine va_get (D := D) (ci := 10) (v := .ref aC) (C := RX11) (T := TX11) (N := 26) hx hb hts iG_X11 hown hK hP 3 rfl rfl 21 (by decide) (hts _ w5_15) (fun _ h9 => h9) rfl dX11_leastCost_116 ?_
                refine lv_iload_n hx hb dX11_leastCost_119 rfl (lv_at hl 2 rfl) ?_
                refine lv_iconst (v := 1) hx hb dX11_leastCost_120 (by decide) ?_
                refine lv_iload_n hx hb dX11_leastCost_121 rfl (lv_at hl 0 rfl) ?_
                refine lv_ishl hx hb dX11_leastCost_122 ?_
                refine lv_topi (fun x11509 ex11509 => ?_)
                have k11510 : Rg x11509 1 2048 := rg_shl1 11 ex11509 k11442 (by decide)
                refine lv_ior hx hb dX11_leastCost_123 ?_
                refine lv_topi (fun x11511 ex11511 => ?_)
                have k11512 : Rg x11511 0 4095 := rg_or 12 ex11511 k7665 k11510 (by decide)
                refine va_iald hx hb hK hP 0 0 rfl rfl (rg_in k11512 (by decide)) dX11_leastCost_124 ?_
                refine lv_topi (fun x11513 ex11513 => ?_)
                have k11514 : Rg x11513 0 1000000 := wF_rd hg11432_0 ex11513
                refine lv_iadd hx hb dX11_leastCost_125 ?_
                refine lv_topi (fun x11515 ex11515 => ?_)
                have tx11515 : x11515.toInt = r11504.toInt + x11513.toInt := ti_add ex11515 k11507 k11514 (by decide) rfl rfl
                have k11516 : Rg x11515 0 1011988 := rg_add ex11515 k11507 k11514 (by decide)
                refine va_mmin hx hb (by rw [hml]; exact hl.1.symm) hown (hts _ w34_13) (hts _ w24_21) (hts _ w8_7) (hts _ w24_22) (Nat.le_of_ble_eq_true rfl) (Nat.le_of_ble_eq_true rfl) (Nat.le_of_ble_eq_true rfl) (Nat.le_of_ble_eq_true rfl) dX11_leastCost_126 ?_
                refine lv_topi (fun x11517 ex11517 => ?_)
                have k11518 : Rg x11517 0 1000000 := rg_min ex11517 k11501 k11516 (by decide)
                refine va_iast hx hb hK hP hD hS 0 0 rfl rfl (rg_in k7665 (by decide)) dX11_leastCost_129 (fun H locs hP hD hS => ?_)
                have hP : va_P D vwCl [(aC, kcI cI 4096 (upd g11432 y7657.toNatClampNeg x11517)), (an, kcI cI 10 g3), (ak, kcI cI 10 g4), (h, oX11 th aw ai ab ac hi re aP ta po en be de fa a5 sp av an ak x1 aW aC ag aT aN aF), (aw, kcI cI 2179 fw), (av, kcI cI 400 g11505)] H := hP
                have hD : va_D A [(aC, kcI cI 4096 (upd g11432 y7657.toNatClampNeg x11517)), (an, kcI cI 10 g3), (ak, kcI cI 10 g4), (h, oX11 th aw ai ab ac hi re aP ta po en be de fa a5 sp av an ak x1 aW aC ag aT aN aF), (aw, kcI cI 2179 fw), (av, kcI cI 400 g11505)] := hD
                have k11520 : wF (upd g11432 y7657.toNatClampNeg x11517) := wF_upd hg11432_0 k11518
                generalize hg11519 : (upd g11432 y7657.toNatClampNeg x11517) = g11519 at hP hD k11520
                obtain ⟨x11521, ex11521⟩ : ∃ y : Int32, y = y11431 + 1 := ⟨_, rfl⟩
                refine lv_iinc (v := x11521) (lv' := [(3, .int x11521), (2, .int r7666), (1, .int y7657), (0, .ref h)]) hx hb dX11_leastCost_130 hl (k := 0) rfl (by rw [ex11521]; rfl) (by decide) rfl (fun ls hl => ?_)
                have k11522 : Rg x11521 1 12 := rg_add ex11521 k11442 (rg_lit (n := 1) (by decide)) (by decide)
                refine lv_goto (tgt := 56) hx hb dX11_leastCost_133 (by decide) ?_
                exact ih11434 (x11521, g11519, g11505) _ _ _ (by show (12 - (x11521).toInt).toNat < (12 - (y11431).toInt).toNat; exact mu_up ex11521 k11442 k11522 (by decide)) ⟨(by rw [(s1_cN (by have q1 := k11442; unfold Rg at q1; omega) (ti_add (Y := 1) ex11521 k11442 (rg_lit (n := 1) (by decide)) (by decide) rfl (by decide)))]; exact inC_go hX56_0 (cn_lt2 (nleI c11444) (by have q1 := k11447; unfold Rg at q1; omega)) (elig_of ex11449 (cl_of (k := cN r7666) k11447 (by decide) (by simp only [cN]; have q1 := k11447; unfold Rg at q1; omega)) k11452 k11450 (rg_w k11442 (by decide)) c11486 k11492 k7665 (Int32.toInt_inj.mp (eqI c11495))) (by rw [ex11500, (cl_of (k := cN y7657) k7665 (by decide) (by simp only [cN]; have q1 := k7665; unfold Rg at q1; omega))]) (by rw [ex11513, (cl_of (k := cN x11511) k11512 (by decide) (by simp only [cN]; have q1 := k11512; unfold Rg at q1; omega)), (or_bit ex11509 ex11511 k7665 (rg_w k11442 (by decide))).1]) k11506 (by rw [ex11502, (cl_of (k := cN r7666) k11447 (by decide) (by simp only [cN]; have q1 := k11447; unfold Rg at q1; omega))]) (nI_cN (rg_w k11442 (by decide) : Rg y11431 0 4095)) tx11515 ex11517 (by rw [← (cl_of (k := cN y7657) k7665 (by decide) (by simp only [cN]; have q1 := k7665; unfold Rg at q1; omega))]; exact hg11519)), (by have q1 := (by have q1 := (nleI c11439); rw [k11] at q1; exact q1); have q2 := (ti_add (Y := 1) ex11521 k11442 (rg_lit (n := 1) (by decide)) (by decide) rfl (by decide)); omega), (hF3.trans (kIter_go (kC_eq rfl (kC_eq rfl (kLet_eq (k11438).symm (kif_f (xF_le c11439) (kif_f (xF_le c11444) (kLet_eq (ke_ld ex11449) (kLet_eq (k11454).symm (kif_f (neI c11486) (kLet_eq (k11494).symm (kif_t (eqI c11495) (kLet_eq (ke_ld ex11500) (kLet_eq (ke_ld ex11502) (kC_eq k11508 (kLet_eq (ke_shl ex11509) (kLet_eq (ke_or ex11511) (kLet_eq (ke_ld ex11513) (kLet_eq (ti_add ex11515 k11507 k11514 (by decide) rfl rfl) (kLet_eq (ke_min ex11517) (kLet_eq (ke_st hg11519) (kLet_eq (ti_add ex11521 k11442 (rg_lit (n := 1) (by decide)) (by decide) rfl rfl) rfl)))))))))))))))))))))), (rg_w k11522 (by decide)), k11520, hP.sub (ws' := [(aC, kcI cI 4096 g11519), (h, oX11 th aw ai ab ac hi re aP ta po en be de fa a5 sp av an ak x1 aW aC ag aT aN aF), (aw, kcI cI 2179 fw), (av, kcI cI 400 g11505), (an, kcI cI 10 g3), (ak, kcI cI 10 g4)]) [0, 3, 4, 5, 1, 2] rfl, hD.sub (ws' := [(aC, kcI cI 4096 g11519), (h, oX11 th aw ai ab ac hi re aP ta po en be de fa a5 sp av an ak x1 aW aC ag aT aN aF), (aw, kcI cI 2179 fw), (av, kcI cI 400 g11505), (an, kcI cI 10 g3), (ak, kcI cI 10 g4)]) [0, 3, 4, 5, 1, 2] (by decide) rfl, hS, lv_sub (l' := [(3, .int x11521), (2, .int r7666), (1, .int y7657), (0, .ref h)]) hl [0, 1, 2, 3] rfl⟩
    · skip
      have k11523 : Rg r7666 1 12 := rg_l2 (nleI c9561) k5 k7670 (by decide)
      refine lv_goto (tgt := 136) hx hb dX11_leastCost_30 (by decide) ?_
      obtain ⟨x11524, ex11524⟩ : ∃ y : Int32, y = y7657 + (-1) := ⟨_, rfl⟩
      refine lv_iinc (v := x11524) (lv' := [(1, .int x11524), (2, .int r7666), (0, .ref h)]) hx hb dX11_leastCost_136 hl (k := 1) rfl (by rw [ex11524]; rfl) (by decide) rfl (fun ls hl => ?_)
      have k11525 : Rg x11524 (-1) 4094 := rg_add ex11524 k7665 (rg_lit (n := -1) (by decide)) (by decide)
      refine lv_goto (tgt := 13) hx hb dX11_leastCost_139 (by decide) ?_
      exact ih7660 (x11524, g7658, g7659) _ _ _ (by show ((x11524).toInt - (-1)).toNat < ((y7657).toInt - (-1)).toNat; exact mu_dn ex11524 k7665 k11525 (by decide)) ⟨(tC_out (tC_over (tC_in hX13_0 (by have q1 := k7665; unfold Rg at q1; omega)) (by rw [← (kc_pop k7667 k7665)]; exact cn_lt2 (nleI c9561) (by have q1 := k5; unfold Rg at q1; omega))) (ti_add (Y := -1) ex11524 k7665 (rg_lit (n := -1) (by decide)) (by decide) rfl (by decide))), (by have q1 := hX13_1; have q2 := (ti_add (Y := -1) ex11524 k7665 (rg_lit (n := -1) (by decide)) (by decide) rfl (by decide)); omega), (by have q1 := k7665; have q2 := (ti_add (Y := -1) ex11524 k7665 (rg_lit (n := -1) (by decide)) (by decide) rfl (by decide)); unfold Rg at q1; omega), (hF1.trans (kIter_go (kC_eq rfl (kC_eq rfl (kif_f (xF_lt c7661) (kLet_eq (k7669).symm (kif_f (xF_le c9561) (kLet_eq (ti_add ex11524 k7665 (rg_lit (n := -1) (by decide)) (by decide) rfl rfl) rfl)))))))), (rg_w k11525 (by decide)), hg7658_0, hP.sub (ws' := [(aC, kcI cI 4096 g7658), (h, oX11 th aw ai ab ac hi re aP ta po en be de fa a5 sp av an ak x1 aW aC ag aT aN aF), (aw, kcI cI 2179 fw), (av, kcI cI 400 g7659), (an, kcI cI 10 g3), (ak, kcI cI 10 g4)]) [0, 1, 2, 3, 4, 5] rfl, hD.sub (ws' := [(aC, kcI cI 4096 g7658), (h, oX11 th aw ai ab ac hi re aP ta po en be de fa a5 sp av an ak x1 aW aC ag aT aN aF), (aw, kcI cI 2179 fw), (av, kcI cI 400 g7659), (an, kcI cI 10 g3), (ak, kcI cI 10 g4)]) [0, 1, 2, 3, 4, 5] (by decide) rfl, hS, lv_sub (l' := [(1, .int x11524), (0, .ref h)]) hl [0, 2] rfl⟩

def kwX11_isNext : List Cond := .code yX11_isNext cX11_isNext 5 (some .boolean) :: kG
theorem hdX11_isNext : yX11_isNext.cls ≠ "java/lang/invoke/MethodHandle" ∧ yX11_isNext.cls ≠ "java/lang/invoke/VarHandle" ∧ (parseMethodDescriptor yX11_isNext.desc).map (fun d => d.parameters.length) = some 4 := by decide +kernel
theorem gX11_isNext_X11_has : GoodIn kG (va_wsS RX11 310 yX11_has kwX11_has) := gK w37_11 (gK w37_12 (gK w0_5 (gK w37_13 gGG)))
theorem dX11_isNext_0 : decode cX11_isNext 0 = .ok (.aload_n 0, 1) := by decide +kernel
theorem dX11_isNext_1 : decode cX11_isNext 1 = .ok (.getfield 42, 3) := by decide +kernel
theorem dX11_isNext_4 : decode cX11_isNext 4 = .ok (.iload_n 1, 1) := by decide +kernel
theorem dX11_isNext_5 : decode cX11_isNext 5 = .ok (.iaload, 1) := by decide +kernel
theorem dX11_isNext_6 : decode cX11_isNext 6 = .ok (.iload_n 2, 1) := by decide +kernel
theorem dX11_isNext_7 : decode cX11_isNext 7 = .ok (.invokestatic 310, 3) := by decide +kernel
theorem dX11_isNext_10 : decode cX11_isNext 10 = .ok (.ifCond .eq 11, 3) := by decide +kernel
theorem dX11_isNext_13 : decode cX11_isNext 13 = .ok (.iload_n 3, 1) := by decide +kernel
theorem dX11_isNext_14 : decode cX11_isNext 14 = .ok (.iload_n 2, 1) := by decide +kernel
theorem dX11_isNext_15 : decode cX11_isNext 15 = .ok (.invokestatic 310, 3) := by decide +kernel
theorem dX11_isNext_18 : decode cX11_isNext 18 = .ok (.ifCond .eq 5, 3) := by decide +kernel
theorem dX11_isNext_21 : decode cX11_isNext 21 = .ok (.iconst 0, 1) := by decide +kernel
theorem dX11_isNext_22 : decode cX11_isNext 22 = .ok (.ireturn, 1) := by decide +kernel
theorem dX11_isNext_23 : decode cX11_isNext 23 = .ok (.iload 4, 2) := by decide +kernel
theorem dX11_isNext_25 : decode cX11_isNext 25 = .ok (.ifCond .eq 54, 3) := by decide +kernel
theorem dX11_isNext_79 : decode cX11_isNext 79 = .ok (.aload_n 0, 1) := by decide +kernel
theorem dX11_isNext_80 : decode cX11_isNext 80 = .ok (.getfield 45, 3) := by decide +kernel
theorem dX11_isNext_83 : decode cX11_isNext 83 = .ok (.iload_n 3, 1) := by decide +kernel
theorem dX11_isNext_84 : decode cX11_isNext 84 = .ok (.iconst 1, 1) := by decide +kernel
theorem dX11_isNext_85 : decode cX11_isNext 85 = .ok (.iload_n 2, 1) := by decide +kernel
theorem dX11_isNext_86 : decode cX11_isNext 86 = .ok (.ishl, 1) := by decide +kernel
theorem dX11_isNext_87 : decode cX11_isNext 87 = .ok (.ior, 1) := by decide +kernel
theorem dX11_isNext_88 : decode cX11_isNext 88 = .ok (.laload, 1) := by decide +kernel
theorem dX11_isNext_89 : decode cX11_isNext 89 = .ok (.lconst 0, 1) := by decide +kernel
theorem dX11_isNext_90 : decode cX11_isNext 90 = .ok (.lcmp, 1) := by decide +kernel
theorem dX11_isNext_91 : decode cX11_isNext 91 = .ok (.ifCond .le 7, 3) := by decide +kernel
theorem dX11_isNext_94 : decode cX11_isNext 94 = .ok (.iconst 1, 1) := by decide +kernel
theorem dX11_isNext_95 : decode cX11_isNext 95 = .ok (.goto 4, 3) := by decide +kernel
theorem dX11_isNext_98 : decode cX11_isNext 98 = .ok (.iconst 0, 1) := by decide +kernel
theorem dX11_isNext_99 : decode cX11_isNext 99 = .ok (.ireturn, 1) := by decide +kernel
set_option maxHeartbeats 4000000 in
set_option maxRecDepth 100000 in
/-- reference: isNext -/
theorem r_isNext0 (l : Launch) (D : va_G) (cI cJ cB cC : ClassId) (h : Nat) (th : Int32) (aw : Nat) (ai : Nat) (ab : Nat) (ac : Nat) (hi : Int32) (re : Int32) (aP : Nat) (ta : Int32) (po : Int32) (en : Int32) (be : Int32) (de : Int32) (fa : Int32) (a5 : Nat) (sp : Int32) (av : Nat) (an : Nat) (ak : Nat) (ne : Int32) (aW : Nat) (aC : Nat) (ag : Nat) (aT : Nat) (aN : Nat) (aF : Nat) (fk : Nat → Int32) (fW : Nat → Int64) (kq : Int32) (sq : Int32) (tq : Int32) (sz : Nat) (H_kq : Rg kq 0 9) (H_sq : Rg sq 0 11) (H_tq : Rg tq 0 4095) (H_fk_K : wK fk) : Met l yX11_isNext kwX11_isNext ({ frames := 1, cells := 0, slots := 0, locals := 21 } : Room) (kPre D (kT cI cJ cB cC) sz [(h, oX11 th aw ai ab ac hi re aP ta po en be de fa a5 sp av an ak ne aW aC ag aT aN aF), (ak, kcI cI 10 fk), (aW, kcJ cJ 4096 fW)] [.ref h, .int kq, .int sq, .int tq, .int 0]) (va_Qi (fun (r : Int32) (_ : Unit) => F_r_isNext0 (gT fk) fW (kq : Int32).toInt (sq : Int32).toInt (tq : Int32).toInt = ((r : Int32).toInt) ∧ ((r = 0 ∧ ¬ nxF fW fk (cN kq) (cN tq) (cN sq)) ∨ (r = 1 ∧ nxF fW fk (cN kq) (cN tq) (cN sq)))) (fun (_ : Unit) (t : State) => kB D (kT cI cJ cB cC) (va_A [(h, oX11 th aw ai ab ac hi re aP ta po en be de fa a5 sp av an ak ne aW aC ag aT aN aF), (ak, kcI cI 10 fk), (aW, kcJ cJ 4096 fW)] sz) [(h, oX11 th aw ai ab ac hi re aP ta po en be de fa a5 sp av an ak ne aW aC ag aT aN aF), (ak, kcI cI 10 fk), (aW, kcJ cJ 4096 fW)] t) (va_A [(h, oX11 th aw ai ab ac hi re aP ta po en be de fa a5 sp av an ak ne aW aC ag aT aN aF), (ak, kcI cI 10 fk), (aW, kcJ cJ 4096 fW)] sz)) 0 0 (va_A [(h, oX11 th aw ai ab ac hi re aP ta po en be de fa a5 sp av an ak ne aW aC ag aT aN aF), (ak, kcI cI 10 fk), (aW, kcJ cJ 4096 fW)] sz) := by
  refine Met.ofW (cc := cX11_isNext) (maxL := 5) (ret := (some .boolean)) (by decide) rfl ?_
  intro p e s m args below meth c s₁ B hml hv
  obtain ⟨rfl, hsz, hN, hE, hP, hK, hD0⟩ := hv
  have hx := B.exec
  have hb := B.bytes
  have hr := B.returns
  have hts := fun (w : Cond) (h : w ∈ kG) => atoms_spec (ws := kwX11_isNext) B.pre w (List.mem_cons_of_mem _ h)
  have hown : s.vm.findClass RX11 = some m.cls := findClass_of_methodNamed B.named
  subst hsz
  have hD := hD0.self (sz := s.heap.size)
  generalize hAe : va_A [(h, oX11 th aw ai ab ac hi re aP ta po en be de fa a5 sp av an ak ne aW aC ag aT aN aF), (ak, kcI cI 10 fk), (aW, kcJ cJ 4096 fW)] s.heap.size = A at hD hE ⊢
  have hA : ∀ q : Nat, s.heap.size ≤ q → A q := fun q h => by rw [← hAe]; exact Or.inr h
  have hl := lv_entry ([.ref h, .int kq, .int sq, .int tq, .int 0]) (n := 5) (Nat.le_of_ble_eq_true rfl)
  rw [lg_entry_eq]
  generalize (lg_sl ([.ref h, .int kq, .int sq, .int tq, .int 0]) ++ List.replicate (5 - (lg_sl ([.ref h, .int kq, .int sq, .int tq, .int 0])).length) Slot.unset).toArray = ls at hl ⊢
  have hl : lv_has ls 5 [(0, .ref h), (1, .int kq), (2, .int sq), (3, .int tq), (4, .int 0)] := hl
  obtain ⟨H, hH0⟩ : ∃ H, H = s.heap := ⟨_, rfl⟩
  have hS : va_S A s.heap H [] := by rw [hH0]; exact va_S.rf
  have hP : va_P D vwCl [(h, oX11 th aw ai ab ac hi re aP ta po en be de fa a5 sp av an ak ne aW aC ag aT aN aF), (ak, kcI cI 10 fk), (aW, kcJ cJ 4096 fW)] H := by rw [hH0]; exact hP
  refine kHeap hH0 ?_
  clear hH0
  refine lv_aload_n hx hb dX11_isNext_0 rfl (lv_at hl 0 rfl) ?_
  refine va_get (D := D) (ci := 10) (v := .ref ak) (C := RX11) (T := TX11) (N := 26) hx hb hts iG_X11 hown hK hP 0 rfl rfl 18 (by decide) (hts _ w5_13) (fun _ h9 => h9) rfl dX11_isNext_1 ?_
  refine lv_iload_n hx hb dX11_isNext_4 rfl (lv_at hl 1 rfl) ?_
  refine va_iald hx hb hK hP 1 0 rfl rfl (rg_in H_kq (by decide)) dX11_isNext_5 ?_
  refine lv_topi (fun x1 ex1 => ?_)
  have k2 : Rg x1 0 4095 := wK_rd H_fk_K ex1
  refine lv_iload_n hx hb dX11_isNext_6 rfl (lv_at hl 2 rfl) ?_
  refine kpurei (wc := []) hP hD hS hA [] rfl (by decide) (fun hPc hDc hFc => va_runS (As := [.int x1, .int sq]) (rest := []) ⟨hx, hb, hml, hown, hts⟩ (r_hasx l D cI cJ cB cC x1 sq H.size) (va_cwS 2 hts gX11_isNext_X11_has rfl rfl rfl hdX11_has ⟨Nat.le_of_ble_eq_true rfl, Nat.le_of_ble_eq_true rfl⟩) ⟨kBlind, fun U hU hW => ⟨rfl, by rw [hU], hN.warm hW, hE.pass hS hFc hW hU, by rw [hU]; exact hPc, va_K.moved hW.alike hK, hDc⟩⟩ rfl rfl hl.1 rfl (lv_room (Nat.le_of_ble_eq_true rfl)) dX11_isNext_7 ⟨Nat.le_of_ble_eq_true rfl, Nat.le_of_ble_eq_true rfl⟩) (fun r3 u H locs hw hP hS => ?_)
  obtain ⟨k4, k5, k6⟩ := hw
  refine lv_if_eq (tgt := 21) hx hb dX11_isNext_10 (by decide) (fun c28 => ?_) (fun c28 => ?_)
  · skip
    have k29 : Rg r3 0 0 := rg_q1 (eqI c28) k5 (rg_lit (n := 0) (by decide)) (by decide)
    refine lv_iconst (v := 0) hx hb dX11_isNext_21 (by decide) ?_
    have hP9 := hP.sub (ws' := [(h, oX11 th aw ai ab ac hi re aP ta po en be de fa a5 sp av an ak ne aW aC ag aT aN aF), (ak, kcI cI 10 fk), (aW, kcJ cJ 4096 fW)]) [0, 1, 2] rfl
    have hD9 := hD.sub (ws' := [(h, oX11 th aw ai ab ac hi re aP ta po en be de fa a5 sp av an ak ne aW aC ag aT aN aF), (ak, kcI cI 10 fk), (aW, kcJ cJ 4096 fW)]) [0, 1, 2] (by decide) rfl
    exact W.zret (v := 0) hx hb hr (by decide) (fun t ht hW => ⟨⟨0, (), rfl, ⟨(kLet_eq (ke_ld ex1) (kLet_eq (k6).symm (kif_t (eqI c28) rfl))), (Or.inl ⟨rfl, (fun q => nelig1 ex1 (cl_of (k := cN kq) H_kq (by decide) (by simp only [cN]; have q1 := H_kq; unfold Rg at q1; omega)) k4 k2 (rg_w H_sq (by decide)) (Int32.toInt_inj.mp (eqI c28)) q.1)⟩)⟩, by rw [ht]; exact hP9, va_K.moved hW.alike hK, hD9⟩, hS.F ht⟩) hS.2.2 dX11_isNext_22
  · skip
    have k30 : Rg r3 1 1 := rg_n1 (neI c28) k5 (rg_lit (n := 0) (by decide)) (by decide)
    refine lv_iload_n hx hb dX11_isNext_13 rfl (lv_at hl 3 rfl) ?_
    refine lv_iload_n hx hb dX11_isNext_14 rfl (lv_at hl 2 rfl) ?_
    refine kpurei (wc := []) hP hD hS hA [] rfl (by decide) (fun hPc hDc hFc => va_runS (As := [.int tq, .int sq]) (rest := []) ⟨hx, hb, hml, hown, hts⟩ (r_hasx l D cI cJ cB cC tq sq H.size) (va_cwS 2 hts gX11_isNext_X11_has rfl rfl rfl hdX11_has ⟨Nat.le_of_ble_eq_true rfl, Nat.le_of_ble_eq_true rfl⟩) ⟨kBlind, fun U hU hW => ⟨rfl, by rw [hU], hN.warm hW, hE.pass hS hFc hW hU, by rw [hU]; exact hPc, va_K.moved hW.alike hK, hDc⟩⟩ rfl rfl hl.1 rfl (lv_room (Nat.le_of_ble_eq_true rfl)) dX11_isNext_15 ⟨Nat.le_of_ble_eq_true rfl, Nat.le_of_ble_eq_true rfl⟩) (fun r31 u H locs hw hP hS => ?_)
    obtain ⟨k32, k33, k34⟩ := hw
    refine lv_if_eq (tgt := 23) hx hb dX11_isNext_18 (by decide) (fun c35 => ?_) (fun c35 => ?_)
    · skip
      have k36 : Rg r31 0 0 := rg_q1 (eqI c35) k33 (rg_lit (n := 0) (by decide)) (by decide)
      refine lv_iload hx hb dX11_isNext_23 (lv_at hl 4 rfl) ?_
      refine lv_if_eq (tgt := 79) hx hb dX11_isNext_25 (by decide) (fun _ => ?_) (fun c48 => absurd (by decide) c48)
      refine lv_aload_n hx hb dX11_isNext_79 rfl (lv_at hl 0 rfl) ?_
      refine va_get (D := D) (ci := 10) (v := .ref aW) (C := RX11) (T := TX11) (N := 26) hx hb hts iG_X11 hown hK hP 0 rfl rfl 20 (by decide) (hts _ w5_14) (fun _ h9 => h9) rfl dX11_isNext_80 ?_
      refine lv_iload_n hx hb dX11_isNext_83 rfl (lv_at hl 3 rfl) ?_
      refine lv_iconst (v := 1) hx hb dX11_isNext_84 (by decide) ?_
      refine lv_iload_n hx hb dX11_isNext_85 rfl (lv_at hl 2 rfl) ?_
      refine lv_ishl hx hb dX11_isNext_86 ?_
      refine lv_topi (fun x49 ex49 => ?_)
      have k50 : Rg x49 1 2048 := rg_shl1 11 ex49 H_sq (by decide)
      refine lv_ior hx hb dX11_isNext_87 ?_
      refine lv_topi (fun x51 ex51 => ?_)
      have k52 : Rg x51 0 4095 := rg_or 12 ex51 H_tq k50 (by decide)
      refine va_lald hx hb hK hP 2 1 rfl rfl (rg_in k52 (by decide)) dX11_isNext_88 ?_
      refine lv_topl (fun x53 ex53 => ?_)
      refine lv_lconst (v := 0) hx hb dX11_isNext_89 (by decide) ?_
      refine W.lcmp hx hb dX11_isNext_90 ?_
      refine lv_topi (fun x54 ex54 => ?_)
      have k55 : Rg x54 (-1) 1 := rg_cmp ex54
      refine lv_if_le (tgt := 98) hx hb dX11_isNext_91 (by decide) (fun c56 => ?_) (fun c56 => ?_)
      · skip
        have k57 : Rg x54 (-1) 0 := rg_e1 (leI c56) k55 (rg_lit (n := 0) (by decide)) (by decide)
        refine lv_iconst (v := 0) hx hb dX11_isNext_98 (by decide) ?_
        have hP9 := hP.sub (ws' := [(h, oX11 th aw ai ab ac hi re aP ta po en be de fa a5 sp av an ak ne aW aC ag aT aN aF), (ak, kcI cI 10 fk), (aW, kcJ cJ 4096 fW)]) [0, 1, 2] rfl
        have hD9 := hD.sub (ws' := [(h, oX11 th aw ai ab ac hi re aP ta po en be de fa a5 sp av an ak ne aW aC ag aT aN aF), (ak, kcI cI 10 fk), (aW, kcJ cJ 4096 fW)]) [0, 1, 2] (by decide) rfl
        exact W.zret (v := 0) hx hb hr (by decide) (fun t ht hW => ⟨⟨0, (), rfl, ⟨(kLet_eq (ke_ld ex1) (kLet_eq (k6).symm (kif_f (neI c28) (kLet_eq (k34).symm (kif_t (eqI c35) (kLet_eq (ke_shl ex49) (kLet_eq (ke_or ex51) (kLet_eq (ke_ldL ex53) (kLet_eq (ke_cmp ex54) (kif_t (leI c56) rfl)))))))))), (Or.inl ⟨rfl, (fun q => cmp_np ex54 (by have q1 := (leI c56); have q2 : (0 : Int32).toInt = 0 := (by decide); omega) (by rw [ex53, (cl_of (k := cN x51) k52 (by decide) (by simp only [cN]; have q1 := k52; unfold Rg at q1; omega)), (or_bit ex49 ex51 H_tq H_sq).1]; exact q.2))⟩)⟩, by rw [ht]; exact hP9, va_K.moved hW.alike hK, hD9⟩, hS.F ht⟩) hS.2.2 dX11_isNext_99
      · skip
        have k58 : Rg x54 1 1 := rg_l2 (nleI c56) (rg_lit (n := 0) (by decide)) k55 (by decide)
        refine lv_iconst (v := 1) hx hb dX11_isNext_94 (by decide) ?_
        refine lv_goto (tgt := 99) hx hb dX11_isNext_95 (by decide) ?_
        have hP9 := hP.sub (ws' := [(h, oX11 th aw ai ab ac hi re aP ta po en be de fa a5 sp av an ak ne aW aC ag aT aN aF), (ak, kcI cI 10 fk), (aW, kcJ cJ 4096 fW)]) [0, 1, 2] rfl
        have hD9 := hD.sub (ws' := [(h, oX11 th aw ai ab ac hi re aP ta po en be de fa a5 sp av an ak ne aW aC ag aT aN aF), (ak, kcI cI 10 fk), (aW, kcJ cJ 4096 fW)]) [0, 1, 2] (by decide) rfl
        exact W.zret (v := 1) hx hb hr (by decide) (fun t ht hW => ⟨⟨1, (), rfl, ⟨(kLet_eq (ke_ld ex1) (kLet_eq (k6).symm (kif_f (neI c28) (kLet_eq (k34).symm (kif_t (eqI c35) (kLet_eq (ke_shl ex49) (kLet_eq (ke_or ex51) (kLet_eq (ke_ldL ex53) (kLet_eq (ke_cmp ex54) (kif_f (xF_le c56) rfl)))))))))), (Or.inr ⟨rfl, ⟨(elig_of ex1 (cl_of (k := cN kq) H_kq (by decide) (by simp only [cN]; have q1 := H_kq; unfold Rg at q1; omega)) k4 k2 (rg_w H_sq (by decide)) c28 k32 H_tq (Int32.toInt_inj.mp (eqI c35))), by rw [← (or_bit ex49 ex51 H_tq H_sq).1, ← (cl_of (k := cN x51) k52 (by decide) (by simp only [cN]; have q1 := k52; unfold Rg at q1; omega)), ← ex53]; exact cmp_pos ex54 (by have q1 := (nleI c56); have q2 : (0 : Int32).toInt = 0 := (by decide); omega)⟩⟩)⟩, by rw [ht]; exact hP9, va_K.moved hW.alike hK, hD9⟩, hS.F ht⟩) hS.2.2 dX11_isNext_99
    · skip
      have k59 : Rg r31 1 1 := rg_n1 (neI c35) k33 (rg_lit (n := 0) (by decide)) (by decide)
      refine lv_iconst (v := 0) hx hb dX11_isNext_21 (by decide) ?_
      have hP9 := hP.sub (ws' := [(h, oX11 th aw ai ab ac hi re aP ta po en be de fa a5 sp av an ak ne aW aC ag aT aN aF), (ak, kcI cI 10 fk), (aW, kcJ cJ 4096 fW)]) [0, 1, 2] rfl
      have hD9 := hD.sub (ws' := [(h, oX11 th aw ai ab ac hi re aP ta po en be de fa a5 sp av an ak ne aW aC ag aT aN aF), (ak, kcI cI 10 fk), (aW, kcJ cJ 4096 fW)]) [0, 1, 2] (by decide) rfl
      exact W.zret (v := 0) hx hb hr (by decide) (fun t ht hW => ⟨⟨0, (), rfl, ⟨(kLet_eq (ke_ld ex1) (kLet_eq (k6).symm (kif_f (neI c28) (kLet_eq (k34).symm (kif_f (neI c35) rfl))))), (Or.inl ⟨rfl, (fun q => nelig2 k32 H_tq (rg_w H_sq (by decide)) c35 q.1)⟩)⟩, by rw [ht]; exact hP9, va_K.moved hW.alike hK, hD9⟩, hS.F ht⟩) hS.2.2 dX11_isNext_22

