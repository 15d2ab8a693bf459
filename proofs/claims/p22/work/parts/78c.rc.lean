set_option maxHeartbeats 4000000 in
set_option maxRecDepth 100000 in
/-- reference: readAll -/
theorem r_readAll1 (l : Launch) (D : va_G) (cI cJ cB cC : ClassId) (h : Nat) (th : Int32) (aw : Nat) (ai : Nat) (ab : Nat) (ac : Nat) (hi : Int32) (re : Int32) (aP : Nat) (ta : Int32) (po : Int32) (en : Int32) (be : Int32) (de : Int32) (fa : Int32) (a5 : Nat) (sp : Int32) (av : Nat) (an : Nat) (ak : Nat) (ne : Int32) (aW : Nat) (aC : Nat) (ag : Nat) (aT : Nat) (aN : Nat) (aF : Nat) (fw : Nat → Int32) (ft : Nat → Int32) (sz : Nat) (H_ta : Rg ta 0 400) (H_fw_W : wW fw) (H_fw_B : wB fw) (H_fw_L : wL fw) : Met l yX11_readAll kwX11_readAll ({ frames := 9, cells := 0, slots := 0, locals := 200 } : Room) (kPre D (kT cI cJ cB cC) sz [(h, oX11 th aw ai ab ac hi re aP ta po en be de fa a5 sp av an ak ne aW aC ag aT aN aF), (aw, kcI cI 2179 fw), (aP, .inl (cB, 400, .inl ft))] [.ref h, .int 1]) (va_Qi (fun (r : Int32) (uu : Int32 × Int32 × (Nat → Int32)) => match uu with | (n0_, n1_, f2_) => Rg n0_ 0 400 ∧ wB f2_ ∧ wL f2_ ∧ wW f2_ ∧ Rg r (-1) 14 ∧ F_r_readAll1 (ta : Int32).toInt (gT fw) (gT ft) = ((r : Int32).toInt, (n0_ : Int32).toInt, (n1_ : Int32).toInt, (gT f2_))) (fun (uu : Int32 × Int32 × (Nat → Int32)) (t : State) => match uu with | (n0_, n1_, f2_) => kB D (kT cI cJ cB cC) (va_A [(h, oX11 th aw ai ab ac hi re aP ta po en be de fa a5 sp av an ak ne aW aC ag aT aN aF), (aw, kcI cI 2179 fw), (aP, .inl (cB, 400, .inl ft))] sz) [(h, oX11 0 aw ai ab ac hi re aP 0 n0_ ta n1_ de fa a5 0 av an ak ne aW aC ag aT aN aF), (aw, kcI cI 2179 f2_), (aP, .inl (cB, 400, .inl ft))] t) (va_A [(h, oX11 th aw ai ab ac hi re aP ta po en be de fa a5 sp av an ak ne aW aC ag aT aN aF), (aw, kcI cI 2179 fw), (aP, .inl (cB, 400, .inl ft))] sz)) 0 0 (va_A [(h, oX11 th aw ai ab ac hi re aP ta po en be de fa a5 sp av an ak ne aW aC ag aT aN aF), (aw, kcI cI 2179 fw), (aP, .inl (cB, 400, .inl ft))] sz) := by
  refine Met.ofW (cc := cX11_readAll) (maxL := 3) (ret := (some .int)) (by decide) rfl ?_
  intro p e s m args below meth c s₁ B hml hv
  obtain ⟨rfl, hsz, hN, hE, hP, hK, hD0⟩ := hv
  have hx := B.exec
  have hb := B.bytes
  have hr := B.returns
  have hts := fun (w : Cond) (h : w ∈ kG) => atoms_spec (ws := kwX11_readAll) B.pre w (List.mem_cons_of_mem _ h)
  have hown : s.vm.findClass RX11 = some m.cls := findClass_of_methodNamed B.named
  subst hsz
  have hD := hD0.self (sz := s.heap.size)
  generalize hAe : va_A [(h, oX11 th aw ai ab ac hi re aP ta po en be de fa a5 sp av an ak ne aW aC ag aT aN aF), (aw, kcI cI 2179 fw), (aP, .inl (cB, 400, .inl ft))] s.heap.size = A at hD hE ⊢
  have hA : ∀ q : Nat, s.heap.size ≤ q → A q := fun q h => by rw [← hAe]; exact Or.inr h
  have hl := lv_entry ([.ref h, .int 1]) (n := 3) (Nat.le_of_ble_eq_true rfl)
  rw [lg_entry_eq]
  generalize (lg_sl ([.ref h, .int 1]) ++ List.replicate (3 - (lg_sl ([.ref h, .int 1])).length) Slot.unset).toArray = ls at hl ⊢
  have hl : lv_has ls 3 [(0, .ref h), (1, .int 1)] := hl
  obtain ⟨H, hH0⟩ : ∃ H, H = s.heap := ⟨_, rfl⟩
  have hS : va_S A s.heap H [] := by rw [hH0]; exact va_S.rf
  have hP : va_P D vwCl [(h, oX11 th aw ai ab ac hi re aP ta po en be de fa a5 sp av an ak ne aW aC ag aT aN aF), (aw, kcI cI 2179 fw), (aP, .inl (cB, 400, .inl ft))] H := by rw [hH0]; exact hP
  refine kHeap hH0 ?_
  clear hH0
  refine lv_aload_n hx hb dX11_readAll_0 rfl (lv_at hl 0 rfl) ?_
  refine kcallv (wc := [(h, oX11 th aw ai ab ac hi re aP ta po en be de fa a5 sp av an ak ne aW aC ag aT aN aF)]) (wr := [(aw, kcI cI 2179 fw), (aP, .inl (cB, 400, .inl ft))]) hP hD hS hA [0] [1, 2] rfl rfl (by decide) (by decide) (by decide) (fun hPc hDc hFc => va_runV (As := []) (rest := []) ⟨hx, hb, hml, hown, hts⟩ (r_uses l D cI cJ cB cC h th aw ai ab ac hi re aP ta po en be de fa a5 sp av an ak ne aW aC ag aT aN aF H.size H_ta) (cwV 0 hts gX11_readAll_X11_uses rfl rfl rfl ⟨rfl, hdX11_uses⟩ ⟨Nat.le_of_ble_eq_true rfl, Nat.le_of_ble_eq_true rfl⟩) ⟨kBlind, va_recv hK hPc (ci := 10) (q0 := 0) rfl rfl, fun U hU hW => ⟨rfl, by rw [hU], hN.warm hW, hE.pass hS hFc hW hU, by rw [hU]; exact hPc, va_K.moved hW.alike hK, hDc⟩⟩ rfl rfl hl.1 rfl (lv_room (Nat.le_of_ble_eq_true rfl)) dX11_readAll_1 ⟨Nat.le_of_ble_eq_true rfl, Nat.le_of_ble_eq_true rfl⟩) (fun u H locs hw hP hD hS => ?_)
  have hP : va_P D vwCl [(aw, kcI cI 2179 fw), (aP, .inl (cB, 400, .inl ft)), (h, oX11 0 aw ai ab ac hi re aP 0 0 ta be de fa a5 sp av an ak ne aW aC ag aT aN aF)] H := hP
  have hD : va_D A [(aw, kcI cI 2179 fw), (aP, .inl (cB, 400, .inl ft)), (h, oX11 0 aw ai ab ac hi re aP 0 0 ta be de fa a5 sp av an ak ne aW aC ag aT aN aF)] := hD
  refine lv_aload_n hx hb dX11_readAll_4 rfl (lv_at hl 0 rfl) ?_
  refine lv_iconst (v := 0) hx hb dX11_readAll_5 (by decide) ?_
  refine va_put (D := D) (ci := 10) (v := .int 0) (ty := .int) (C := RX11) (T := TX11) (N := 26) hx hb hts iG_X11 tyX11 tyX11_ok nmX11 hown hK hP hD hS 2 rfl rfl 15 (by decide) (hts _ w18_4) (fun _ h9 => h9) rfl (by decide +kernel) rfl rfl (Nat.le_of_ble_eq_true rfl) dX11_readAll_6 (fun H locs hP hD hS => ?_)
  have hP : va_P D vwCl [(aw, kcI cI 2179 fw), (aP, .inl (cB, 400, .inl ft)), (h, oX11 0 aw ai ab ac hi re aP 0 0 ta be de fa a5 0 av an ak ne aW aC ag aT aN aF)] H := hP
  have hD : va_D A [(aw, kcI cI 2179 fw), (aP, .inl (cB, 400, .inl ft)), (h, oX11 0 aw ai ab ac hi re aP 0 0 ta be de fa a5 0 av an ak ne aW aC ag aT aN aF)] := hD
  refine lv_aload_n hx hb dX11_readAll_9 rfl (lv_at hl 0 rfl) ?_
  refine kcallv (wc := [(h, oX11 0 aw ai ab ac hi re aP 0 0 ta be de fa a5 0 av an ak ne aW aC ag aT aN aF), (aP, .inl (cB, 400, .inl ft))]) (wr := [(aw, kcI cI 2179 fw)]) hP hD hS hA [2, 1] [0] rfl rfl (by decide) (by decide) (by decide) (fun hPc hDc hFc => va_runV (As := []) (rest := []) ⟨hx, hb, hml, hown, hts⟩ (r_blanks l D cI cJ cB cC h 0 aw ai ab ac hi re aP 0 0 ta be de fa a5 0 av an ak ne aW aC ag aT aN aF ft H.size (rg_w (rg_lit (n := 0) (by decide)) (by decide)) H_ta) (cwV 0 hts gX11_readAll_X11_blanks rfl rfl rfl ⟨rfl, hdX11_blanks⟩ ⟨Nat.le_of_ble_eq_true rfl, Nat.le_of_ble_eq_true rfl⟩) ⟨kBlind, va_recv hK hPc (ci := 10) (q0 := 0) rfl rfl, fun U hU hW => ⟨rfl, by rw [hU], hN.warm hW, hE.pass hS hFc hW hU, by rw [hU]; exact hPc, va_K.moved hW.alike hK, hDc⟩⟩ rfl rfl hl.1 rfl (lv_room (Nat.le_of_ble_eq_true rfl)) dX11_readAll_10 ⟨Nat.le_of_ble_eq_true rfl, Nat.le_of_ble_eq_true rfl⟩) (fun u H locs hw hP hD hS => ?_)
  obtain ⟨x1, x2⟩ := u
  have hP : va_P D vwCl [(aw, kcI cI 2179 fw), (h, oX11 0 aw ai ab ac hi re aP 0 x1 ta x2 de fa a5 0 av an ak ne aW aC ag aT aN aF), (aP, .inl (cB, 400, .inl ft))] H := hP
  have hD : va_D A [(aw, kcI cI 2179 fw), (h, oX11 0 aw ai ab ac hi re aP 0 x1 ta x2 de fa a5 0 av an ak ne aW aC ag aT aN aF), (aP, .inl (cB, 400, .inl ft))] := hD
  obtain ⟨k3, k4, k5, k6, k7⟩ := hw
  refine lv_aload_n hx hb dX11_readAll_13 rfl (lv_at hl 0 rfl) ?_
  refine va_get (D := D) (ci := 10) (v := .int x1) (C := RX11) (T := TX11) (N := 26) hx hb hts iG_X11 hown hK hP 1 rfl rfl 9 (by decide) (hts _ w18_5) (fun _ h9 => h9) rfl dX11_readAll_14 ?_
  refine lv_aload_n hx hb dX11_readAll_17 rfl (lv_at hl 0 rfl) ?_
  refine va_get (D := D) (ci := 10) (v := .int ta) (C := RX11) (T := TX11) (N := 26) hx hb hts iG_X11 hown hK hP 1 rfl rfl 10 (by decide) (hts _ w18_6) (fun _ h9 => h9) rfl dX11_readAll_18 ?_
  refine lv_icmp_ne (tgt := 26) hx hb dX11_readAll_21 (by decide) (fun c8 => ?_) (fun c8 => ?_)
  · skip
    refine lv_iconst (v := 0) hx hb dX11_readAll_26 (by decide) ?_
    refine lv_istore_n (lv' := [(2, .int 0), (0, .ref h), (1, .int 1)]) hx hb dX11_readAll_27 rfl hl (by decide) rfl (fun ls hl => ?_)
    refine k_loop (hd := 28) (fun (u : Int32 × (Nat → Int32) × Int32 × Int32) => match u with | (y531, g532, y533, y534) => (14 - (y531).toInt).toNat) (fun (u : Int32 × (Nat → Int32) × Int32 × Int32) (H : Heap) (locs : List Loc) (ls : Array Slot) => match u with | (y531, g532, y533, y534) => (F_r_readAll1 ta.toInt (gT fw) (gT ft) = F_r_readAll1_l1 ta.toInt (gT ft) (y531.toInt, (gT g532), y533.toInt, y534.toInt)) ∧ Rg y531 0 14 ∧ wB g532 ∧ wL g532 ∧ wW g532 ∧ Rg y533 0 400 ∧ Rg y534 0 400 ∧ va_P D vwCl [(aw, kcI cI 2179 g532), (h, oX11 0 aw ai ab ac hi re aP 0 y533 ta y534 de fa a5 0 av an ak ne aW aC ag aT aN aF), (aP, .inl (cB, 400, .inl ft))] H ∧ va_D A [(aw, kcI cI 2179 g532), (h, oX11 0 aw ai ab ac hi re aP 0 y533 ta y534 de fa a5 0 av an ak ne aW aC ag aT aN aF), (aP, .inl (cB, 400, .inl ft))] ∧ va_S A s.heap H locs ∧ lv_has ls 3 [(2, .int y531), (0, .ref h), (1, .int 1)]) ((0 : Int32), fw, x1, x2) ⟨(kC_eq k7 (kif_f (neI c8) rfl)), (rg_w (rg_lit (n := 0) (by decide)) (by decide)), H_fw_B, H_fw_L, H_fw_W, k3, k4, hP.sub (ws' := [(aw, kcI cI 2179 fw), (h, oX11 0 aw ai ab ac hi re aP 0 x1 ta x2 de fa a5 0 av an ak ne aW aC ag aT aN aF), (aP, .inl (cB, 400, .inl ft))]) [0, 1, 2] rfl, hD.sub (ws' := [(aw, kcI cI 2179 fw), (h, oX11 0 aw ai ab ac hi re aP 0 x1 ta x2 de fa a5 0 av an ak ne aW aC ag aT aN aF), (aP, .inl (cB, 400, .inl ft))]) [0, 1, 2] (by decide) rfl, hS, lv_sub (l' := [(2, .int 0), (0, .ref h), (1, .int 1)]) hl [0, 1, 2] rfl⟩ (fun u H locs ls hI ih535 => ?_)
    clear hP hD hS hl
    obtain ⟨y531, g532, y533, y534⟩ := u
    obtain ⟨hF1, hy531, hg532_0, hg532_1, hg532_2, hy533, hy534, hP, hD, hS, hl⟩ := hI
    have hP : va_P D vwCl [(aw, kcI cI 2179 g532), (h, oX11 0 aw ai ab ac hi re aP 0 y533 ta y534 de fa a5 0 av an ak ne aW aC ag aT aN aF), (aP, .inl (cB, 400, .inl ft))] H := hP
    have hD : va_D A [(aw, kcI cI 2179 g532), (h, oX11 0 aw ai ab ac hi re aP 0 y533 ta y534 de fa a5 0 av an ak ne aW aC ag aT aN aF), (aP, .inl (cB, 400, .inl ft))] := hD
    have hl : lv_has ls 3 [(2, .int y531), (0, .ref h), (1, .int 1)] := hl
    refine lv_aload_n hx hb dX11_readAll_28 rfl (lv_at hl 1 rfl) ?_
    refine lv_iload_n hx hb dX11_readAll_29 rfl (lv_at hl 2 rfl) ?_
    refine lv_iload_n hx hb dX11_readAll_30 rfl (lv_at hl 0 rfl) ?_
    refine kcalli (wc := [(h, oX11 0 aw ai ab ac hi re aP 0 y533 ta y534 de fa a5 0 av an ak ne aW aC ag aT aN aF), (aw, kcI cI 2179 g532), (aP, .inl (cB, 400, .inl ft))]) (wr := []) hP hD hS hA [1, 0, 2] [] rfl rfl (by decide) (by decide) (by decide) (fun hPc hDc hFc => va_runV (As := [.int 1, .int y531]) (rest := []) ⟨hx, hb, hml, hown, hts⟩ (r_readLine1 l D cI cJ cB cC h 0 aw ai ab ac hi re aP 0 y533 ta y534 de fa a5 0 av an ak ne aW aC ag aT aN aF g532 ft y531 H.size hy533 H_ta (rg_w hy531 (by decide)) hg532_2 hg532_0 hg532_1) (cwV 2 hts gX11_readAll_X11_readLine rfl rfl rfl ⟨rfl, hdX11_readLine⟩ ⟨Nat.le_of_ble_eq_true rfl, Nat.le_of_ble_eq_true rfl⟩) ⟨kBlind, va_recv hK hPc (ci := 10) (q0 := 0) rfl rfl, fun U hU hW => ⟨rfl, by rw [hU], hN.warm hW, hE.pass hS hFc hW hU, by rw [hU]; exact hPc, va_K.moved hW.alike hK, hDc⟩⟩ rfl rfl hl.1 rfl (lv_room (Nat.le_of_ble_eq_true rfl)) dX11_readAll_31 ⟨Nat.le_of_ble_eq_true rfl, Nat.le_of_ble_eq_true rfl⟩) (fun r536 u H locs hw hP hD hS => ?_)
    obtain ⟨x537, x538, g539⟩ := u
    have hP : va_P D vwCl [(h, oX11 0 aw ai ab ac hi re aP 0 x537 ta x538 de fa a5 0 av an ak ne aW aC ag aT aN aF), (aw, kcI cI 2179 g539), (aP, .inl (cB, 400, .inl ft))] H := hP
    have hD : va_D A [(h, oX11 0 aw ai ab ac hi re aP 0 x537 ta x538 de fa a5 0 av an ak ne aW aC ag aT aN aF), (aw, kcI cI 2179 g539), (aP, .inl (cB, 400, .inl ft))] := hD
    obtain ⟨k540, k541, k542, k543, k544, hw⟩ := hw
    rcases hw with rfl | ⟨rfl, kc545_0⟩
    · skip
      refine lv_if_ne (tgt := 39) hx hb dX11_readAll_34 (by decide) (fun c546 => absurd (by decide) c546) (fun _ => ?_)
      refine lv_iconst (v := (-1)) hx hb dX11_readAll_37 (by decide) ?_
      have hP9 := hP.sub (ws' := [(h, oX11 0 aw ai ab ac hi re aP 0 x537 ta x538 de fa a5 0 av an ak ne aW aC ag aT aN aF), (aw, kcI cI 2179 g539), (aP, .inl (cB, 400, .inl ft))]) [0, 1, 2] rfl
      have hD9 := hD.sub (ws' := [(h, oX11 0 aw ai ab ac hi re aP 0 x537 ta x538 de fa a5 0 av an ak ne aW aC ag aT aN aF), (aw, kcI cI 2179 g539), (aP, .inl (cB, 400, .inl ft))]) [0, 1, 2] (by decide) rfl
      exact W.iret (v := (-1)) hx hb hr (fun t ht hW => ⟨⟨(-1), (x537, x538, g539), rfl, ⟨k540, k541, k542, k543, (rg_w (rg_lit (n := -1) (by decide)) (by decide)), (hF1.trans (kIter_out (kC_eq rfl (kC_eq rfl (kC_eq rfl (kC_eq k544 (kC_eq rfl (kC_eq rfl (kif_t rfl rfl)))))))))⟩, by rw [ht]; exact hP9, va_K.moved hW.alike hK, hD9⟩, hS.F ht⟩) hS.2.2 dX11_readAll_38
    · skip
      refine lv_if_ne (tgt := 39) hx hb dX11_readAll_34 (by decide) (fun _ => ?_) (fun c547 => absurd c547 (by decide))
      refine lv_aload_n hx hb dX11_readAll_39 rfl (lv_at hl 1 rfl) ?_
      refine kcallv (wc := [(h, oX11 0 aw ai ab ac hi re aP 0 x537 ta x538 de fa a5 0 av an ak ne aW aC ag aT aN aF), (aP, .inl (cB, 400, .inl ft))]) (wr := [(aw, kcI cI 2179 g539)]) hP hD hS hA [0, 2] [1] rfl rfl (by decide) (by decide) (by decide) (fun hPc hDc hFc => va_runV (As := []) (rest := []) ⟨hx, hb, hml, hown, hts⟩ (r_blanks l D cI cJ cB cC h 0 aw ai ab ac hi re aP 0 x537 ta x538 de fa a5 0 av an ak ne aW aC ag aT aN aF ft H.size k540 H_ta) (cwV 0 hts gX11_readAll_X11_blanks rfl rfl rfl ⟨rfl, hdX11_blanks⟩ ⟨Nat.le_of_ble_eq_true rfl, Nat.le_of_ble_eq_true rfl⟩) ⟨kBlind, va_recv hK hPc (ci := 10) (q0 := 0) rfl rfl, fun U hU hW => ⟨rfl, by rw [hU], hN.warm hW, hE.pass hS hFc hW hU, by rw [hU]; exact hPc, va_K.moved hW.alike hK, hDc⟩⟩ rfl rfl hl.1 rfl (lv_room (Nat.le_of_ble_eq_true rfl)) dX11_readAll_40 ⟨Nat.le_of_ble_eq_true rfl, Nat.le_of_ble_eq_true rfl⟩) (fun u H locs hw hP hD hS => ?_)
      obtain ⟨x548, x549⟩ := u
      have hP : va_P D vwCl [(aw, kcI cI 2179 g539), (h, oX11 0 aw ai ab ac hi re aP 0 x548 ta x549 de fa a5 0 av an ak ne aW aC ag aT aN aF), (aP, .inl (cB, 400, .inl ft))] H := hP
      have hD : va_D A [(aw, kcI cI 2179 g539), (h, oX11 0 aw ai ab ac hi re aP 0 x548 ta x549 de fa a5 0 av an ak ne aW aC ag aT aN aF), (aP, .inl (cB, 400, .inl ft))] := hD
      obtain ⟨k550, k551, k552, k553, k554⟩ := hw
      refine lv_aload_n hx hb dX11_readAll_43 rfl (lv_at hl 1 rfl) ?_
      refine va_get (D := D) (ci := 10) (v := .int x548) (C := RX11) (T := TX11) (N := 26) hx hb hts iG_X11 hown hK hP 1 rfl rfl 9 (by decide) (hts _ w18_5) (fun _ h9 => h9) rfl dX11_readAll_44 ?_
      refine lv_aload_n hx hb dX11_readAll_47 rfl (lv_at hl 1 rfl) ?_
      refine va_get (D := D) (ci := 10) (v := .int ta) (C := RX11) (T := TX11) (N := 26) hx hb hts iG_X11 hown hK hP 1 rfl rfl 10 (by decide) (hts _ w18_6) (fun _ h9 => h9) rfl dX11_readAll_48 ?_
      refine lv_icmp_ne (tgt := 58) hx hb dX11_readAll_51 (by decide) (fun c555 => ?_) (fun c555 => ?_)
      · skip
        refine lv_aload_n hx hb dX11_readAll_58 rfl (lv_at hl 1 rfl) ?_
        refine lv_bipush (v := 59) hx hb dX11_readAll_59 (by decide) ?_
        refine lv_bipush (v := 59) hx hb dX11_readAll_61 (by decide) ?_
        refine kpurei (wc := [(h, oX11 0 aw ai ab ac hi re aP 0 x548 ta x549 de fa a5 0 av an ak ne aW aC ag aT aN aF), (aP, .inl (cB, 400, .inl ft))]) hP hD hS hA [1, 2] rfl (by decide) (fun hPc hDc hFc => va_runV (As := [.int 59, .int 59]) (rest := []) ⟨hx, hb, hml, hown, hts⟩ (r_isAt l D cI cJ cB cC h 0 aw ai ab ac hi re aP 0 x548 ta x549 de fa a5 0 av an ak ne aW aC ag aT aN aF ft 59 59 H.size k550 H_ta) (cwV 2 hts gX11_readAll_X11_isAt rfl rfl rfl ⟨rfl, hdX11_isAt⟩ ⟨Nat.le_of_ble_eq_true rfl, Nat.le_of_ble_eq_true rfl⟩) ⟨kBlind, va_recv hK hPc (ci := 10) (q0 := 0) rfl rfl, fun U hU hW => ⟨rfl, by rw [hU], hN.warm hW, hE.pass hS hFc hW hU, by rw [hU]; exact hPc, va_K.moved hW.alike hK, hDc⟩⟩ rfl rfl hl.1 rfl (lv_room (Nat.le_of_ble_eq_true rfl)) dX11_readAll_63 ⟨Nat.le_of_ble_eq_true rfl, Nat.le_of_ble_eq_true rfl⟩) (fun r556 u H locs hw hP hS => ?_)
        obtain ⟨k557, hw⟩ := hw
        rcases hw with rfl | ⟨rfl, kc558_0, kc558_1⟩
        · skip
          refine lv_if_ne (tgt := 71) hx hb dX11_readAll_66 (by decide) (fun c559 => absurd (by decide) c559) (fun _ => ?_)
          refine lv_iconst (v := (-1)) hx hb dX11_readAll_69 (by decide) ?_
          have hP9 := hP.sub (ws' := [(h, oX11 0 aw ai ab ac hi re aP 0 x548 ta x549 de fa a5 0 av an ak ne aW aC ag aT aN aF), (aw, kcI cI 2179 g539), (aP, .inl (cB, 400, .inl ft))]) [1, 0, 2] rfl
          have hD9 := hD.sub (ws' := [(h, oX11 0 aw ai ab ac hi re aP 0 x548 ta x549 de fa a5 0 av an ak ne aW aC ag aT aN aF), (aw, kcI cI 2179 g539), (aP, .inl (cB, 400, .inl ft))]) [1, 0, 2] (by decide) rfl
          exact W.iret (v := (-1)) hx hb hr (fun t ht hW => ⟨⟨(-1), (x548, x549, g539), rfl, ⟨k550, k541, k542, k543, (rg_w (rg_lit (n := -1) (by decide)) (by decide)), (hF1.trans (kIter_out (kC_eq rfl (kC_eq rfl (kC_eq rfl (kC_eq k544 (kC_eq rfl (kC_eq rfl (kif_f (by decide) (kC_eq k554 (kif_f (neI c555) (kLet_eq (k557).symm (kif_t rfl rfl)))))))))))))⟩, by rw [ht]; exact hP9, va_K.moved hW.alike hK, hD9⟩, hS.F ht⟩) hS.2.2 dX11_readAll_70
        · skip
          refine lv_if_ne (tgt := 71) hx hb dX11_readAll_66 (by decide) (fun _ => ?_) (fun c560 => absurd c560 (by decide))
          refine lv_aload_n hx hb dX11_readAll_71 rfl (lv_at hl 1 rfl) ?_
          refine lv_dup hx hb dX11_readAll_72 rfl ?_
          refine va_get (D := D) (ci := 10) (v := .int x548) (C := RX11) (T := TX11) (N := 26) hx hb hts iG_X11 hown hK hP 1 rfl rfl 9 (by decide) (hts _ w18_5) (fun _ h9 => h9) rfl dX11_readAll_73 ?_
          refine lv_iconst (v := 1) hx hb dX11_readAll_76 (by decide) ?_
          refine lv_iadd hx hb dX11_readAll_77 ?_
          refine lv_topi (fun x561 ex561 => ?_)
          have tx561 : x561.toInt = x548.toInt + 1 := ti_add ex561 kc558_0 (rg_lit (n := 1) (by decide)) (by decide) rfl (by decide)
          have k562 : Rg x561 1 400 := rg_add ex561 kc558_0 (rg_lit (n := 1) (by decide)) (by decide)
          refine va_put (D := D) (ci := 10) (v := .int x561) (ty := .int) (C := RX11) (T := TX11) (N := 26) hx hb hts iG_X11 tyX11 tyX11_ok nmX11 hown hK hP hD hS 1 rfl rfl 9 (by decide) (hts _ w18_5) (fun _ h9 => h9) rfl (by decide +kernel) rfl rfl (Nat.le_of_ble_eq_true rfl) dX11_readAll_78 (fun H locs hP hD hS => ?_)
          have hP : va_P D vwCl [(aw, kcI cI 2179 g539), (h, oX11 0 aw ai ab ac hi re aP 0 x561 ta x549 de fa a5 0 av an ak ne aW aC ag aT aN aF), (aP, .inl (cB, 400, .inl ft))] H := hP
          have hD : va_D A [(aw, kcI cI 2179 g539), (h, oX11 0 aw ai ab ac hi re aP 0 x561 ta x549 de fa a5 0 av an ak ne aW aC ag aT aN aF), (aP, .inl (cB, 400, .inl ft))] := hD
          obtain ⟨x563, ex563⟩ : ∃ y : Int32, y = y531 + 1 := ⟨_, rfl⟩
          refine lv_iinc (v := x563) (lv' := [(2, .int x563), (0, .ref h), (1, .int 1)]) hx hb dX11_readAll_81 hl (k := 0) rfl (by rw [ex563]; rfl) (by decide) rfl (fun ls hl => ?_)
          have k564 : Rg x563 1 14 := rg_add ex563 kc545_0 (rg_lit (n := 1) (by decide)) (by decide)
          refine lv_goto (tgt := 28) hx hb dX11_readAll_84 (by decide) ?_
          exact ih535 (x563, g539, x561, x549) _ _ _ (by show (14 - (x563).toInt).toNat < (14 - (y531).toInt).toNat; exact mu_up ex563 kc545_0 k564 (by decide)) ⟨(hF1.trans (kIter_go (kC_eq rfl (kC_eq rfl (kC_eq rfl (kC_eq k544 (kC_eq rfl (kC_eq rfl (kif_f (by decide) (kC_eq k554 (kif_f (neI c555) (kLet_eq (k557).symm (kif_f (by decide) (kLet_eq (ti_add ex561 kc558_0 (rg_lit (n := 1) (by decide)) (by decide) rfl rfl) (kLet_eq (ti_add ex563 kc545_0 (rg_lit (n := 1) (by decide)) (by decide) rfl rfl) rfl))))))))))))))), (rg_w k564 (by decide)), k541, k542, k543, (rg_w k562 (by decide)), k551, hP.sub (ws' := [(aw, kcI cI 2179 g539), (h, oX11 0 aw ai ab ac hi re aP 0 x561 ta x549 de fa a5 0 av an ak ne aW aC ag aT aN aF), (aP, .inl (cB, 400, .inl ft))]) [0, 1, 2] rfl, hD.sub (ws' := [(aw, kcI cI 2179 g539), (h, oX11 0 aw ai ab ac hi re aP 0 x561 ta x549 de fa a5 0 av an ak ne aW aC ag aT aN aF), (aP, .inl (cB, 400, .inl ft))]) [0, 1, 2] (by decide) rfl, hS, lv_sub (l' := [(2, .int x563), (0, .ref h), (1, .int 1)]) hl [0, 1, 2] rfl⟩
      · skip
        refine lv_iload_n hx hb dX11_readAll_54 rfl (lv_at hl 0 rfl) ?_
        refine lv_iconst (v := 1) hx hb dX11_readAll_55 (by decide) ?_
        refine lv_iadd hx hb dX11_readAll_56 ?_
        refine lv_topi (fun x565 ex565 => ?_)
        have tx565 : x565.toInt = y531.toInt + 1 := ti_add ex565 kc545_0 (rg_lit (n := 1) (by decide)) (by decide) rfl (by decide)
        have k566 : Rg x565 1 14 := rg_add ex565 kc545_0 (rg_lit (n := 1) (by decide)) (by decide)
        have hP9 := hP.sub (ws' := [(h, oX11 0 aw ai ab ac hi re aP 0 x548 ta x549 de fa a5 0 av an ak ne aW aC ag aT aN aF), (aw, kcI cI 2179 g539), (aP, .inl (cB, 400, .inl ft))]) [1, 0, 2] rfl
        have hD9 := hD.sub (ws' := [(h, oX11 0 aw ai ab ac hi re aP 0 x548 ta x549 de fa a5 0 av an ak ne aW aC ag aT aN aF), (aw, kcI cI 2179 g539), (aP, .inl (cB, 400, .inl ft))]) [1, 0, 2] (by decide) rfl
        exact W.iret (v := x565) hx hb hr (fun t ht hW => ⟨⟨x565, (x548, x549, g539), rfl, ⟨k550, k541, k542, k543, (rg_w k566 (by decide)), (hF1.trans (kIter_out (kC_eq rfl (kC_eq rfl (kC_eq rfl (kC_eq k544 (kC_eq rfl (kC_eq rfl (kif_f (by decide) (kC_eq k554 (kif_t (eqI c555) (kLet_eq (ti_add ex565 kc545_0 (rg_lit (n := 1) (by decide)) (by decide) rfl rfl) rfl))))))))))))⟩, by rw [ht]; exact hP9, va_K.moved hW.alike hK, hD9⟩, hS.F ht⟩) hS.2.2 dX11_readAll_57
  · skip
    refine lv_iconst (v := 0) hx hb dX11_readAll_24 (by decide) ?_
    have hP9 := hP.sub (ws' := [(h, oX11 0 aw ai ab ac hi re aP 0 x1 ta x2 de fa a5 0 av an ak ne aW aC ag aT aN aF), (aw, kcI cI 2179 fw), (aP, .inl (cB, 400, .inl ft))]) [1, 0, 2] rfl
    have hD9 := hD.sub (ws' := [(h, oX11 0 aw ai ab ac hi re aP 0 x1 ta x2 de fa a5 0 av an ak ne aW aC ag aT aN aF), (aw, kcI cI 2179 fw), (aP, .inl (cB, 400, .inl ft))]) [1, 0, 2] (by decide) rfl
    exact W.iret (v := 0) hx hb hr (fun t ht hW => ⟨⟨0, (x1, x2, fw), rfl, ⟨k3, H_fw_B, H_fw_L, H_fw_W, (rg_w (rg_lit (n := 0) (by decide)) (by decide)), (kC_eq k7 (kif_t (eqI c8) rfl))⟩, by rw [ht]; exact hP9, va_K.moved hW.alike hK, hD9⟩, hS.F ht⟩) hS.2.2 dX11_readAll_25

