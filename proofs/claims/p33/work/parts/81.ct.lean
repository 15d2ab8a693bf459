set_option maxHeartbeats 4000000 in
set_option maxRecDepth 100000 in
/-- reference: isBarred -/
theorem r_isBarredx (l : Launch) (D : va_G) (cI cJ cB cC : ClassId) (h : Nat) (th : Int32) (aw : Nat) (ai : Nat) (ab : Nat) (ac : Nat) (hi : Int32) (re : Int32) (aP : Nat) (ta : Int32) (po : Int32) (en : Int32) (be : Int32) (de : Int32) (fa : Int32) (a5 : Nat) (sp : Int32) (av : Nat) (an : Nat) (ak : Nat) (ne : Int32) (aW : Nat) (aC : Nat) (ag : Nat) (aT : Nat) (aN : Nat) (aF : Nat) (fw : Nat → Int32) (fv : Nat → Int32) (mm : Int32) (b : Int32) (sz : Nat) (H_mm : Rg mm 0 9) (H_b : Rg b 0 11) (H_fw_W : wW fw) (H_fw_L : wL fw) : Met l yX11_isBarred kwX11_isBarred ({ frames := 5, cells := 0, slots := 0, locals := 120 } : Room) (kPre D (kT cI cJ cB cC) sz [(h, oX11 th aw ai ab ac hi re aP ta po en be de fa a5 sp av an ak ne aW aC ag aT aN aF), (aw, .inl (cI, 2179, .inl fw)), (av, .inl (cI, 400, .inl fv))] [.ref h, .int mm, .int b]) (va_Qi (fun (r : Int32) (f0_ : (Nat → Int32)) => r = bF fw mm b ∧ Rg r 0 1) (fun (f0_ : (Nat → Int32)) (t : State) => kB D (kT cI cJ cB cC) (va_A [(h, oX11 th aw ai ab ac hi re aP ta po en be de fa a5 sp av an ak ne aW aC ag aT aN aF), (aw, .inl (cI, 2179, .inl fw)), (av, .inl (cI, 400, .inl fv))] sz) [(h, oX11 th aw ai ab ac hi re aP ta po en be de fa a5 sp av an ak ne aW aC ag aT aN aF), (aw, .inl (cI, 2179, .inl fw)), (av, .inl (cI, 400, .inl f0_))] t) (va_A [(h, oX11 th aw ai ab ac hi re aP ta po en be de fa a5 sp av an ak ne aW aC ag aT aN aF), (aw, .inl (cI, 2179, .inl fw)), (av, .inl (cI, 400, .inl fv))] sz)) 0 0 (va_A [(h, oX11 th aw ai ab ac hi re aP ta po en be de fa a5 sp av an ak ne aW aC ag aT aN aF), (aw, .inl (cI, 2179, .inl fw)), (av, .inl (cI, 400, .inl fv))] sz) := by
  refine Met.ofW (cc := cX11_isBarred) (maxL := 5) (ret := (some .boolean)) (by decide) rfl ?_
  intro p e s m args below meth c s₁ B hml hv
  obtain ⟨rfl, hsz, hN, hE, hP, hK, hD0⟩ := hv
  have hx := B.exec
  have hb := B.bytes
  have hr := B.returns
  have hts := fun (w : Cond) (h : w ∈ kG) => atoms_spec (ws := kwX11_isBarred) B.pre w (List.mem_cons_of_mem _ h)
  have hown : s.vm.findClass RX11 = some m.cls := findClass_of_methodNamed B.named
  subst hsz
  have hD := hD0.self (sz := s.heap.size)
  generalize hAe : va_A [(h, oX11 th aw ai ab ac hi re aP ta po en be de fa a5 sp av an ak ne aW aC ag aT aN aF), (aw, .inl (cI, 2179, .inl fw)), (av, .inl (cI, 400, .inl fv))] s.heap.size = A at hD hE ⊢
  have hA : ∀ q : Nat, s.heap.size ≤ q → A q := fun q h => by rw [← hAe]; exact Or.inr h
  have hl := lv_entry ([.ref h, .int mm, .int b]) (n := 5) (Nat.le_of_ble_eq_true rfl)
  rw [lg_entry_eq]
  generalize (lg_sl ([.ref h, .int mm, .int b]) ++ List.replicate (5 - (lg_sl ([.ref h, .int mm, .int b])).length) Slot.unset).toArray = ls at hl ⊢
  have hl : lv_has ls 5 [(0, .ref h), (1, .int mm), (2, .int b)] := hl
  obtain ⟨H, hH0⟩ : ∃ H, H = s.heap := ⟨_, rfl⟩
  have hS : va_S A s.heap H [] := by rw [hH0]; exact va_S.rf
  have hP : va_P D vwCl [(h, oX11 th aw ai ab ac hi re aP ta po en be de fa a5 sp av an ak ne aW aC ag aT aN aF), (aw, .inl (cI, 2179, .inl fw)), (av, .inl (cI, 400, .inl fv))] H := by rw [hH0]; exact hP
  refine kHeap hH0 ?_
  clear hH0
  refine lv_aload_n hx hb dX11_isBarred_0 rfl (lv_at hl 0 rfl) ?_
  refine va_get (D := D) (ci := 10) (v := .ref aw) (C := RX11) (T := TX11) (N := 26) hx hb hts iG_X11 hown hK hP 0 rfl rfl 1 (by decide) (hts _ w5_3) (fun _ h9 => h9) rfl dX11_isBarred_1 ?_
  refine lv_iconst (v := 3) hx hb dX11_isBarred_4 (by decide) ?_
  refine va_iald hx hb hK hP 1 0 rfl rfl (rg_in (rg_lit (n := 3) (by decide)) (by decide)) dX11_isBarred_5 ?_
  refine lv_topi (fun x1 ex1 => ?_)
  refine lv_if_ne (tgt := 16) hx hb dX11_isBarred_6 (by decide) (fun c2 => ?_) (fun c2 => ?_)
  · skip
    refine lv_iconst (v := 0) hx hb dX11_isBarred_16 (by decide) ?_
    refine lv_istore_n (lv' := [(3, .int 0), (0, .ref h), (1, .int mm), (2, .int b)]) hx hb dX11_isBarred_17 rfl hl (by decide) rfl (fun ls hl => ?_)
    refine lv_iconst (v := 0) hx hb dX11_isBarred_18 (by decide) ?_
    refine lv_istore (lv' := [(4, .int 0), (3, .int 0), (0, .ref h), (1, .int mm), (2, .int b)]) hx hb dX11_isBarred_19 hl (by decide) rfl (fun ls hl => ?_)
    refine k_loop (hd := 21) (fun (u : Int32 × Int32 × (Nat → Int32)) => match u with | (y500, y501, g502) => (12 - (y500).toInt).toNat) (fun (u : Int32 × Int32 × (Nat → Int32)) (H : Heap) (locs : List Loc) (ls : Array Slot) => match u with | (y500, y501, g502) => (((y501 : Int32) = 0 ∧ bRun fw mm b (cN (fw 505) - cN y500) (cN y500) = bRun fw mm b (cN (fw 505)) 0) ∨ ((y501 : Int32) = 1 ∧ bRun fw mm b (cN (fw 505)) 0 = 1)) ∧ Rg y500 0 12 ∧ Rg y501 0 1 ∧ va_P D vwCl [(h, oX11 th aw ai ab ac hi re aP ta po en be de fa a5 sp av an ak ne aW aC ag aT aN aF), (aw, .inl (cI, 2179, .inl fw)), (av, .inl (cI, 400, .inl g502))] H ∧ va_D A [(h, oX11 th aw ai ab ac hi re aP ta po en be de fa a5 sp av an ak ne aW aC ag aT aN aF), (aw, .inl (cI, 2179, .inl fw)), (av, .inl (cI, 400, .inl g502))] ∧ va_S A s.heap H locs ∧ lv_has ls 5 [(4, .int y500), (3, .int y501), (0, .ref h), (1, .int mm), (2, .int b)]) ((0 : Int32), (0 : Int32), fv) ⟨(Or.inl ⟨rfl, by have q0 : cN (0 : Int32) = 0 := (by decide); rw [q0, Nat.sub_zero]⟩), (rg_w (rg_lit (n := 0) (by decide)) (by decide)), (rg_w (rg_lit (n := 0) (by decide)) (by decide)), hP.sub (ws' := [(h, oX11 th aw ai ab ac hi re aP ta po en be de fa a5 sp av an ak ne aW aC ag aT aN aF), (aw, .inl (cI, 2179, .inl fw)), (av, .inl (cI, 400, .inl fv))]) [0, 1, 2] rfl, hD.sub (ws' := [(h, oX11 th aw ai ab ac hi re aP ta po en be de fa a5 sp av an ak ne aW aC ag aT aN aF), (aw, .inl (cI, 2179, .inl fw)), (av, .inl (cI, 400, .inl fv))]) [0, 1, 2] (by decide) rfl, hS, lv_sub (l' := [(4, .int 0), (3, .int 0), (0, .ref h), (1, .int mm), (2, .int b)]) hl [0, 1, 2, 3, 4] rfl⟩ (fun u H locs ls hI ih503 => ?_)
    clear hP hD hS hl
    obtain ⟨y500, y501, g502⟩ := u
    obtain ⟨hX21_0, hy500, hy501, hP, hD, hS, hl⟩ := hI
    have hP : va_P D vwCl [(h, oX11 th aw ai ab ac hi re aP ta po en be de fa a5 sp av an ak ne aW aC ag aT aN aF), (aw, .inl (cI, 2179, .inl fw)), (av, .inl (cI, 400, .inl g502))] H := hP
    have hD : va_D A [(h, oX11 th aw ai ab ac hi re aP ta po en be de fa a5 sp av an ak ne aW aC ag aT aN aF), (aw, .inl (cI, 2179, .inl fw)), (av, .inl (cI, 400, .inl g502))] := hD
    have hl : lv_has ls 5 [(4, .int y500), (3, .int y501), (0, .ref h), (1, .int mm), (2, .int b)] := hl
    refine lv_iload hx hb dX11_isBarred_21 (lv_at hl 0 rfl) ?_
    refine lv_aload_n hx hb dX11_isBarred_23 rfl (lv_at hl 2 rfl) ?_
    refine va_get (D := D) (ci := 10) (v := .ref aw) (C := RX11) (T := TX11) (N := 26) hx hb hts iG_X11 hown hK hP 0 rfl rfl 1 (by decide) (hts _ w5_3) (fun _ h9 => h9) rfl dX11_isBarred_24 ?_
    refine lv_sipush (v := 505) hx hb dX11_isBarred_27 (by decide) ?_
    refine va_iald hx hb hK hP 1 0 rfl rfl (rg_in (rg_lit (n := 505) (by decide)) (by decide)) dX11_isBarred_30 ?_
    refine lv_topi (fun x504 ex504 => ?_)
    have k505 : Rg x504 0 12 := wL_505 H_fw_L ex504
    refine lv_icmp_ge (tgt := 77) hx hb dX11_isBarred_31 (by decide) (fun c533 => ?_) (fun c533 => ?_)
    · skip
      refine lv_iload_n hx hb dX11_isBarred_77 rfl (lv_at hl 1 rfl) ?_
      have hP9 := hP.sub (ws' := [(h, oX11 th aw ai ab ac hi re aP ta po en be de fa a5 sp av an ak ne aW aC ag aT aN aF), (aw, .inl (cI, 2179, .inl fw)), (av, .inl (cI, 400, .inl g502))]) [0, 1, 2] rfl
      have hD9 := hD.sub (ws' := [(h, oX11 th aw ai ab ac hi re aP ta po en be de fa a5 sp av an ak ne aW aC ag aT aN aF), (aw, .inl (cI, 2179, .inl fw)), (av, .inl (cI, 400, .inl g502))]) [0, 1, 2] (by decide) rfl
      exact W.zret (v := y501) hx hb hr (rg_bool hy501) (fun t ht hW => ⟨⟨y501, (g502), rfl, ⟨(by unfold bF; rw [if_neg (fun q => c2 (Int32.toInt_inj.mp (by rw [ex1]; exact q)))]; exact (hX21_0).elim (fun q => q.1.trans ((bR_end (le_505 ex504 (leI c533))).symm.trans q.2)) (fun q => q.1.trans q.2.symm)), hy501⟩, by rw [ht]; exact hP9, va_K.moved hW.alike hK, hD9⟩, hS.F ht⟩) hS.2.2 dX11_isBarred_78
    · skip
      have k534 : Rg y500 0 11 := rg_l1 (nleI c533) hy500 k505 (by decide)
      have k535 : Rg x504 1 12 := rg_l2 (nleI c533) hy500 k505 (by decide)
      refine lv_iload_n hx hb dX11_isBarred_34 rfl (lv_at hl 1 rfl) ?_
      refine lv_if_ne (tgt := 77) hx hb dX11_isBarred_35 (by decide) (fun c536 => ?_) (fun c536 => ?_)
      · skip
        have k537 : Rg y501 1 1 := rg_n1 (neI c536) hy501 (rg_lit (n := 0) (by decide)) (by decide)
        refine lv_iload_n hx hb dX11_isBarred_77 rfl (lv_at hl 1 rfl) ?_
        have hP9 := hP.sub (ws' := [(h, oX11 th aw ai ab ac hi re aP ta po en be de fa a5 sp av an ak ne aW aC ag aT aN aF), (aw, .inl (cI, 2179, .inl fw)), (av, .inl (cI, 400, .inl g502))]) [0, 1, 2] rfl
        have hD9 := hD.sub (ws' := [(h, oX11 th aw ai ab ac hi re aP ta po en be de fa a5 sp av an ak ne aW aC ag aT aN aF), (aw, .inl (cI, 2179, .inl fw)), (av, .inl (cI, 400, .inl g502))]) [0, 1, 2] (by decide) rfl
        exact W.zret (v := y501) hx hb hr (rg_bool (rg_w k537 (by decide))) (fun t ht hW => ⟨⟨y501, (g502), rfl, ⟨(by unfold bF; rw [if_neg (fun q => c2 (Int32.toInt_inj.mp (by rw [ex1]; exact q)))]; exact (hX21_0).elim (fun q => absurd q.1 c536) (fun q => q.1.trans q.2.symm)), (rg_w k537 (by decide))⟩, by rw [ht]; exact hP9, va_K.moved hW.alike hK, hD9⟩, hS.F ht⟩) hS.2.2 dX11_isBarred_78
      · skip
        have k538 : Rg y501 0 0 := rg_q1 (eqI c536) hy501 (rg_lit (n := 0) (by decide)) (by decide)
        refine lv_aload_n hx hb dX11_isBarred_38 rfl (lv_at hl 2 rfl) ?_
        refine va_get (D := D) (ci := 10) (v := .ref aw) (C := RX11) (T := TX11) (N := 26) hx hb hts iG_X11 hown hK hP 0 rfl rfl 1 (by decide) (hts _ w5_3) (fun _ h9 => h9) rfl dX11_isBarred_39 ?_
        refine lv_sipush (v := 506) hx hb dX11_isBarred_42 (by decide) ?_
        refine lv_iconst (v := 3) hx hb dX11_isBarred_45 (by decide) ?_
        refine lv_iload hx hb dX11_isBarred_46 (lv_at hl 0 rfl) ?_
        refine lv_imul hx hb dX11_isBarred_48 ?_
        refine lv_topi (fun x539 ex539 => ?_)
        have tx539 : x539.toInt = 3 * y500.toInt := ti_mul ex539 (rg_lit (n := 3) (by decide)) k534 (by decide) (by decide) rfl
        have k540 : Rg x539 0 33 := rg_mul ex539 (rg_lit (n := 3) (by decide)) k534 (by decide)
        refine lv_iadd hx hb dX11_isBarred_49 ?_
        refine lv_topi (fun x541 ex541 => ?_)
        have tx541 : x541.toInt = 506 + x539.toInt := ti_add ex541 (rg_lit (n := 506) (by decide)) k540 (by decide) (by decide) rfl
        have k542 : Rg x541 506 539 := rg_add ex541 (rg_lit (n := 506) (by decide)) k540 (by decide)
        refine va_iald hx hb hK hP 1 0 rfl rfl (rg_in k542 (by decide)) dX11_isBarred_50 ?_
        refine lv_topi (fun x543 ex543 => ?_)
        have hpx543 : x543 = fw (506 + 3 * cN y500) := by rw [ex543, cl_of (k := 506 + 3 * cN y500) k542 (by decide) (by simp only [cN]; have q2 := neI c2; have q3 := neI (Ne.symm c2); have q6 := (nleI c533); have q7 := (eqI c536); have q8 := tx539; have q9 := tx541; have q11 := k534; have q12 : (0 : Int32).toInt = 0 := (by decide); have q13 : (1 : Int32).toInt = 1 := (by decide); unfold Rg at *; omega)]
        refine lv_if_ge (tgt := 69) hx hb dX11_isBarred_51 (by decide) (fun c554 => ?_) (fun c554 => ?_)
        · skip
          have k555 : Rg x543 0 2147483647 := rg_e2 (leI c554) (rg_lit (n := 0) (by decide)) (rg_any x543) (by decide)
          refine lv_iconst (v := 0) hx hb dX11_isBarred_69 (by decide) ?_
          refine lv_istore_n (lv' := [(3, .int 0), (4, .int y500), (0, .ref h), (1, .int mm), (2, .int b)]) hx hb dX11_isBarred_70 rfl hl (by decide) rfl (fun ls hl => ?_)
          obtain ⟨x556, ex556⟩ : ∃ y : Int32, y = y500 + 1 := ⟨_, rfl⟩
          refine lv_iinc (v := x556) (lv' := [(4, .int x556), (3, .int 0), (0, .ref h), (1, .int mm), (2, .int b)]) hx hb dX11_isBarred_71 hl (k := 1) rfl (by rw [ex556]; rfl) (by decide) rfl (fun ls hl => ?_)
          have k557 : Rg x556 1 12 := rg_add ex556 k534 (rg_lit (n := 1) (by decide)) (by decide)
          refine lv_goto (tgt := 21) hx hb dX11_isBarred_74 (by decide) ?_
          exact ih503 (x556, (0 : Int32), g502) _ _ _ (by show (12 - (x556).toInt).toNat < (12 - (y500).toInt).toNat; exact mu_up ex556 k534 k557 (by decide)) ⟨(Or.inl ⟨rfl, by rw [← ((hX21_0).resolve_right (fun q => by have q1 := q.1; have q2 := (eqI c536); rw [q1] at q2; exact absurd q2 (by decide))).2, bR_go (lt_505 ex504 (nleI c533)) (by have q1 := k534; unfold Rg at q1; omega) (ti_add (Y := 1) ex556 k534 (rg_lit (n := 1) (by decide)) (by decide) rfl (by decide)), if_neg (fun q => by have q1 := q.1; rw [← hpx543] at q1; have q2 := (leI c554); have q3 : (0 : Int32).toInt = 0 := (by decide); omega)]⟩), (rg_w k557 (by decide)), (rg_w (rg_lit (n := 0) (by decide)) (by decide)), hP.sub (ws' := [(h, oX11 th aw ai ab ac hi re aP ta po en be de fa a5 sp av an ak ne aW aC ag aT aN aF), (aw, .inl (cI, 2179, .inl fw)), (av, .inl (cI, 400, .inl g502))]) [0, 1, 2] rfl, hD.sub (ws' := [(h, oX11 th aw ai ab ac hi re aP ta po en be de fa a5 sp av an ak ne aW aC ag aT aN aF), (aw, .inl (cI, 2179, .inl fw)), (av, .inl (cI, 400, .inl g502))]) [0, 1, 2] (by decide) rfl, hS, lv_sub (l' := [(4, .int x556), (3, .int 0), (0, .ref h), (1, .int mm), (2, .int b)]) hl [0, 1, 2, 3, 4] rfl⟩
        · skip
          have k558 : Rg x543 (-2147483648) (-1) := rg_l1 (nleI c554) (rg_any x543) (rg_lit (n := 0) (by decide)) (by decide)
          refine lv_aload_n hx hb dX11_isBarred_54 rfl (lv_at hl 2 rfl) ?_
          refine lv_iload hx hb dX11_isBarred_55 (lv_at hl 0 rfl) ?_
          refine lv_iload_n hx hb dX11_isBarred_57 rfl (lv_at hl 3 rfl) ?_
          refine lv_iload_n hx hb dX11_isBarred_58 rfl (lv_at hl 4 rfl) ?_
          refine kcalli (wc := [(h, oX11 th aw ai ab ac hi re aP ta po en be de fa a5 sp av an ak ne aW aC ag aT aN aF), (aw, .inl (cI, 2179, .inl fw)), (av, .inl (cI, 400, .inl g502))]) (wr := []) hP hD hS hA [0, 1, 2] [] rfl rfl (by decide) (by decide) (by decide) (fun hPc hDc hFc => va_runV (As := [.int y500, .int mm, .int b]) (rest := []) ⟨hx, hb, hml, hown, hts⟩ (r_holdsLinex l D cI cJ cB cC h th aw ai ab ac hi re aP ta po en be de fa a5 sp av an ak ne aW aC ag aT aN aF fw g502 y500 mm b H.size H_mm H_b k534 H_fw_W H_fw_L (lt_505 ex504 (nleI c533))) (cwV 3 hts gX11_isBarred_X11_holdsLine rfl rfl rfl ⟨rfl, hdX11_holdsLine⟩ ⟨Nat.le_of_ble_eq_true rfl, Nat.le_of_ble_eq_true rfl⟩) ⟨kBlind, va_recv hK hPc (ci := 10) (q0 := 0) rfl rfl, fun U hU hW => ⟨rfl, by rw [hU], hN.warm hW, hE.pass hS hFc hW hU, by rw [hU]; exact hPc, va_K.moved hW.alike hK, hDc⟩⟩ rfl rfl hl.1 rfl (lv_room (Nat.le_of_ble_eq_true rfl)) dX11_isBarred_59 ⟨Nat.le_of_ble_eq_true rfl, Nat.le_of_ble_eq_true rfl⟩) (fun r559 u H locs hw hP hD hS => ?_)
          obtain ⟨g560, rfl⟩ : ∃ z, z = u := ⟨_, rfl⟩
          have hP : va_P D vwCl [(h, oX11 th aw ai ab ac hi re aP ta po en be de fa a5 sp av an ak ne aW aC ag aT aN aF), (aw, .inl (cI, 2179, .inl fw)), (av, .inl (cI, 400, .inl g560))] H := hP
          have hD : va_D A [(h, oX11 th aw ai ab ac hi re aP ta po en be de fa a5 sp av an ak ne aW aC ag aT aN aF), (aw, .inl (cI, 2179, .inl fw)), (av, .inl (cI, 400, .inl g560))] := hD
          obtain ⟨k561, k562⟩ := hw
          refine lv_if_eq (tgt := 69) hx hb dX11_isBarred_62 (by decide) (fun c563 => ?_) (fun c563 => ?_)
          · skip
            have k564 : Rg r559 0 0 := rg_q1 (eqI c563) k562 (rg_lit (n := 0) (by decide)) (by decide)
            refine lv_iconst (v := 0) hx hb dX11_isBarred_69 (by decide) ?_
            refine lv_istore_n (lv' := [(3, .int 0), (4, .int y500), (0, .ref h), (1, .int mm), (2, .int b)]) hx hb dX11_isBarred_70 rfl hl (by decide) rfl (fun ls hl => ?_)
            obtain ⟨x565, ex565⟩ : ∃ y : Int32, y = y500 + 1 := ⟨_, rfl⟩
            refine lv_iinc (v := x565) (lv' := [(4, .int x565), (3, .int 0), (0, .ref h), (1, .int mm), (2, .int b)]) hx hb dX11_isBarred_71 hl (k := 1) rfl (by rw [ex565]; rfl) (by decide) rfl (fun ls hl => ?_)
            have k566 : Rg x565 1 12 := rg_add ex565 k534 (rg_lit (n := 1) (by decide)) (by decide)
            refine lv_goto (tgt := 21) hx hb dX11_isBarred_74 (by decide) ?_
            exact ih503 (x565, (0 : Int32), g560) _ _ _ (by show (12 - (x565).toInt).toNat < (12 - (y500).toInt).toNat; exact mu_up ex565 k534 k566 (by decide)) ⟨(Or.inl ⟨rfl, by rw [← ((hX21_0).resolve_right (fun q => by have q1 := q.1; have q2 := (eqI c536); rw [q1] at q2; exact absurd q2 (by decide))).2, bR_go (lt_505 ex504 (nleI c533)) (by have q1 := k534; unfold Rg at q1; omega) (ti_add (Y := 1) ex565 k534 (rg_lit (n := 1) (by decide)) (by decide) rfl (by decide)), if_neg (fun q => q.2 (by rw [← k561]; exact (Int32.toInt_inj.mp (eqI c563))))]⟩), (rg_w k566 (by decide)), (rg_w (rg_lit (n := 0) (by decide)) (by decide)), hP.sub (ws' := [(h, oX11 th aw ai ab ac hi re aP ta po en be de fa a5 sp av an ak ne aW aC ag aT aN aF), (aw, .inl (cI, 2179, .inl fw)), (av, .inl (cI, 400, .inl g560))]) [0, 1, 2] rfl, hD.sub (ws' := [(h, oX11 th aw ai ab ac hi re aP ta po en be de fa a5 sp av an ak ne aW aC ag aT aN aF), (aw, .inl (cI, 2179, .inl fw)), (av, .inl (cI, 400, .inl g560))]) [0, 1, 2] (by decide) rfl, hS, lv_sub (l' := [(4, .int x565), (3, .int 0), (0, .ref h), (1, .int mm), (2, .int b)]) hl [0, 1, 2, 3, 4] rfl⟩
          · skip
            have k567 : Rg r559 1 1 := rg_n1 (neI c563) k562 (rg_lit (n := 0) (by decide)) (by decide)
            refine lv_iconst (v := 1) hx hb dX11_isBarred_65 (by decide) ?_
            refine lv_goto (tgt := 70) hx hb dX11_isBarred_66 (by decide) ?_
            refine lv_istore_n (lv' := [(3, .int 1), (4, .int y500), (0, .ref h), (1, .int mm), (2, .int b)]) hx hb dX11_isBarred_70 rfl hl (by decide) rfl (fun ls hl => ?_)
            obtain ⟨x568, ex568⟩ : ∃ y : Int32, y = y500 + 1 := ⟨_, rfl⟩
            refine lv_iinc (v := x568) (lv' := [(4, .int x568), (3, .int 1), (0, .ref h), (1, .int mm), (2, .int b)]) hx hb dX11_isBarred_71 hl (k := 1) rfl (by rw [ex568]; rfl) (by decide) rfl (fun ls hl => ?_)
            have k569 : Rg x568 1 12 := rg_add ex568 k534 (rg_lit (n := 1) (by decide)) (by decide)
            refine lv_goto (tgt := 21) hx hb dX11_isBarred_74 (by decide) ?_
            exact ih503 (x568, (1 : Int32), g560) _ _ _ (by show (12 - (x568).toInt).toNat < (12 - (y500).toInt).toNat; exact mu_up ex568 k534 k569 (by decide)) ⟨(Or.inr ⟨rfl, by rw [← ((hX21_0).resolve_right (fun q => by have q1 := q.1; have q2 := (eqI c536); rw [q1] at q2; exact absurd q2 (by decide))).2, bR_go (lt_505 ex504 (nleI c533)) (by have q1 := k534; unfold Rg at q1; omega) (ti_add (Y := 1) ex568 k534 (rg_lit (n := 1) (by decide)) (by decide) rfl (by decide)), if_pos ⟨by rw [← hpx543]; exact (by have q1 := (nleI c554); have q2 : (0 : Int32).toInt = 0 := (by decide); omega), by rw [← k561]; exact c563⟩]⟩), (rg_w k569 (by decide)), (rg_w (rg_lit (n := 1) (by decide)) (by decide)), hP.sub (ws' := [(h, oX11 th aw ai ab ac hi re aP ta po en be de fa a5 sp av an ak ne aW aC ag aT aN aF), (aw, .inl (cI, 2179, .inl fw)), (av, .inl (cI, 400, .inl g560))]) [0, 1, 2] rfl, hD.sub (ws' := [(h, oX11 th aw ai ab ac hi re aP ta po en be de fa a5 sp av an ak ne aW aC ag aT aN aF), (aw, .inl (cI, 2179, .inl fw)), (av, .inl (cI, 400, .inl g560))]) [0, 1, 2] (by decide) rfl, hS, lv_sub (l' := [(4, .int x568), (3, .int 1), (0, .ref h), (1, .int mm), (2, .int b)]) hl [0, 1, 2, 3, 4] rfl⟩
  · skip
    have k570 : Rg x1 0 0 := rg_q1 (eqI c2) (rg_any x1) (rg_lit (n := 0) (by decide)) (by decide)
    refine lv_aload_n hx hb dX11_isBarred_9 rfl (lv_at hl 0 rfl) ?_
    refine lv_iload_n hx hb dX11_isBarred_10 rfl (lv_at hl 1 rfl) ?_
    refine lv_iload_n hx hb dX11_isBarred_11 rfl (lv_at hl 2 rfl) ?_
    refine kpurei (wc := [(h, oX11 th aw ai ab ac hi re aP ta po en be de fa a5 sp av an ak ne aW aC ag aT aN aF), (aw, .inl (cI, 2179, .inl fw))]) hP hD hS hA [0, 1] rfl (by decide) (fun hPc hDc hFc => va_runV (As := [.int mm, .int b]) (rest := []) ⟨hx, hb, hml, hown, hts⟩ (r_isNextToLastx l D cI cJ cB cC h th aw ai ab ac hi re aP ta po en be de fa a5 sp av an ak ne aW aC ag aT aN aF fw mm b H.size H_mm H_b H_fw_W) (cwV 2 hts gX11_isBarred_X11_isNextToLast rfl rfl rfl ⟨rfl, hdX11_isNextToLast⟩ ⟨Nat.le_of_ble_eq_true rfl, Nat.le_of_ble_eq_true rfl⟩) ⟨kBlind, va_recv hK hPc (ci := 10) (q0 := 0) rfl rfl, fun U hU hW => ⟨rfl, by rw [hU], hN.warm hW, hE.pass hS hFc hW hU, by rw [hU]; exact hPc, va_K.moved hW.alike hK, hDc⟩⟩ rfl rfl hl.1 rfl (lv_room (Nat.le_of_ble_eq_true rfl)) dX11_isBarred_12 ⟨Nat.le_of_ble_eq_true rfl, Nat.le_of_ble_eq_true rfl⟩) (fun r571 u H locs hw hP hS => ?_)
    obtain ⟨k572, k573⟩ := hw
    have hP9 := hP.sub (ws' := [(h, oX11 th aw ai ab ac hi re aP ta po en be de fa a5 sp av an ak ne aW aC ag aT aN aF), (aw, .inl (cI, 2179, .inl fw)), (av, .inl (cI, 400, .inl fv))]) [0, 1, 2] rfl
    have hD9 := hD.sub (ws' := [(h, oX11 th aw ai ab ac hi re aP ta po en be de fa a5 sp av an ak ne aW aC ag aT aN aF), (aw, .inl (cI, 2179, .inl fw)), (av, .inl (cI, 400, .inl fv))]) [0, 1, 2] (by decide) rfl
    exact W.zret (v := r571) hx hb hr (rg_bool k573) (fun t ht hW => ⟨⟨r571, (fv), rfl, ⟨(by unfold bF; rw [if_pos (by have q1 := (eqI c2); have q2 : (0 : Int32).toInt = 0 := (by decide); rw [q2, ex1] at q1; exact q1)]; exact k572), k573⟩, by rw [ht]; exact hP9, va_K.moved hW.alike hK, hD9⟩, hS.F ht⟩) hS.2.2 dX11_isBarred_15

set_option maxHeartbeats 4000000 in
set_option maxRecDepth 100000 in
/-- reference: costOf -/
theorem r_costOfx (l : Launch) (D : va_G) (cI cJ cB cC : ClassId) (h : Nat) (th : Int32) (aw : Nat) (ai : Nat) (ab : Nat) (ac : Nat) (hi : Int32) (re : Int32) (aP : Nat) (ta : Int32) (po : Int32) (en : Int32) (be : Int32) (de : Int32) (fa : Int32) (a5 : Nat) (sp : Int32) (av : Nat) (an : Nat) (ak : Nat) (ne : Int32) (aW : Nat) (aC : Nat) (ag : Nat) (aT : Nat) (aN : Nat) (aF : Nat) (fw : Nat → Int32) (fv : Nat → Int32) (mm : Int32) (b : Int32) (sz : Nat) (H_mm : Rg mm 0 9) (H_b : Rg b 0 11) (H_fw_W : wW fw) (H_fw_L : wL fw) : Met l yX11_costOf kwX11_costOf ({ frames := 5, cells := 0, slots := 0, locals := 120 } : Room) (kPre D (kT cI cJ cB cC) sz [(h, oX11 th aw ai ab ac hi re aP ta po en be de fa a5 sp av an ak ne aW aC ag aT aN aF), (aw, .inl (cI, 2179, .inl fw)), (av, .inl (cI, 400, .inl fv))] [.ref h, .int mm, .int b]) (va_Qi (fun (r : Int32) (f0_ : (Nat → Int32)) => r = cF fw mm b ∧ Rg r 0 11988) (fun (f0_ : (Nat → Int32)) (t : State) => kB D (kT cI cJ cB cC) (va_A [(h, oX11 th aw ai ab ac hi re aP ta po en be de fa a5 sp av an ak ne aW aC ag aT aN aF), (aw, .inl (cI, 2179, .inl fw)), (av, .inl (cI, 400, .inl fv))] sz) [(h, oX11 th aw ai ab ac hi re aP ta po en be de fa a5 sp av an ak ne aW aC ag aT aN aF), (aw, .inl (cI, 2179, .inl fw)), (av, .inl (cI, 400, .inl f0_))] t) (va_A [(h, oX11 th aw ai ab ac hi re aP ta po en be de fa a5 sp av an ak ne aW aC ag aT aN aF), (aw, .inl (cI, 2179, .inl fw)), (av, .inl (cI, 400, .inl fv))] sz)) 0 0 (va_A [(h, oX11 th aw ai ab ac hi re aP ta po en be de fa a5 sp av an ak ne aW aC ag aT aN aF), (aw, .inl (cI, 2179, .inl fw)), (av, .inl (cI, 400, .inl fv))] sz) := by
  refine Met.ofW (cc := cX11_costOf) (maxL := 5) (ret := (some .int)) (by decide) rfl ?_
  intro p e s m args below meth c s₁ B hml hv
  obtain ⟨rfl, hsz, hN, hE, hP, hK, hD0⟩ := hv
  have hx := B.exec
  have hb := B.bytes
  have hr := B.returns
  have hts := fun (w : Cond) (h : w ∈ kG) => atoms_spec (ws := kwX11_costOf) B.pre w (List.mem_cons_of_mem _ h)
  have hown : s.vm.findClass RX11 = some m.cls := findClass_of_methodNamed B.named
  subst hsz
  have hD := hD0.self (sz := s.heap.size)
  generalize hAe : va_A [(h, oX11 th aw ai ab ac hi re aP ta po en be de fa a5 sp av an ak ne aW aC ag aT aN aF), (aw, .inl (cI, 2179, .inl fw)), (av, .inl (cI, 400, .inl fv))] s.heap.size = A at hD hE ⊢
  have hA : ∀ q : Nat, s.heap.size ≤ q → A q := fun q h => by rw [← hAe]; exact Or.inr h
  have hl := lv_entry ([.ref h, .int mm, .int b]) (n := 5) (Nat.le_of_ble_eq_true rfl)
  rw [lg_entry_eq]
  generalize (lg_sl ([.ref h, .int mm, .int b]) ++ List.replicate (5 - (lg_sl ([.ref h, .int mm, .int b])).length) Slot.unset).toArray = ls at hl ⊢
  have hl : lv_has ls 5 [(0, .ref h), (1, .int mm), (2, .int b)] := hl
  obtain ⟨H, hH0⟩ : ∃ H, H = s.heap := ⟨_, rfl⟩
  have hS : va_S A s.heap H [] := by rw [hH0]; exact va_S.rf
  have hP : va_P D vwCl [(h, oX11 th aw ai ab ac hi re aP ta po en be de fa a5 sp av an ak ne aW aC ag aT aN aF), (aw, .inl (cI, 2179, .inl fw)), (av, .inl (cI, 400, .inl fv))] H := by rw [hH0]; exact hP
  refine kHeap hH0 ?_
  clear hH0
  refine lv_iconst (v := 0) hx hb dX11_costOf_0 (by decide) ?_
  refine lv_istore_n (lv' := [(3, .int 0), (0, .ref h), (1, .int mm), (2, .int b)]) hx hb dX11_costOf_1 rfl hl (by decide) rfl (fun ls hl => ?_)
  refine lv_iconst (v := 0) hx hb dX11_costOf_2 (by decide) ?_
  refine lv_istore (lv' := [(4, .int 0), (3, .int 0), (0, .ref h), (1, .int mm), (2, .int b)]) hx hb dX11_costOf_3 hl (by decide) rfl (fun ls hl => ?_)
  refine k_loop (hd := 5) (fun (u : Int32 × Int32 × (Nat → Int32)) => match u with | (y715, y716, g717) => (12 - (y715).toInt).toNat) (fun (u : Int32 × Int32 × (Nat → Int32)) (H : Heap) (locs : List Loc) (ls : Array Slot) => match u with | (y715, y716, g717) => (cRun fw mm b (cN (fw 505) - cN y715) (cN y715) y716 = cRun fw mm b (cN (fw 505)) 0 0) ∧ ((fw 3).toInt = 1 ∨ (y716 : Int32).toInt = 0) ∧ (0 ≤ (y716 : Int32).toInt ∧ (y716 : Int32).toInt ≤ 999 * (y715 : Int32).toInt) ∧ Rg y715 0 12 ∧ Rg y716 (-1) 12987 ∧ va_P D vwCl [(h, oX11 th aw ai ab ac hi re aP ta po en be de fa a5 sp av an ak ne aW aC ag aT aN aF), (aw, .inl (cI, 2179, .inl fw)), (av, .inl (cI, 400, .inl g717))] H ∧ va_D A [(h, oX11 th aw ai ab ac hi re aP ta po en be de fa a5 sp av an ak ne aW aC ag aT aN aF), (aw, .inl (cI, 2179, .inl fw)), (av, .inl (cI, 400, .inl g717))] ∧ va_S A s.heap H locs ∧ lv_has ls 5 [(4, .int y715), (3, .int y716), (0, .ref h), (1, .int mm), (2, .int b)]) ((0 : Int32), (0 : Int32), fv) ⟨(by have q0 : cN (0 : Int32) = 0 := (by decide); rw [q0, Nat.sub_zero]), (Or.inr (by decide)), ⟨by decide, by decide⟩, (rg_w (rg_lit (n := 0) (by decide)) (by decide)), (rg_w (rg_lit (n := 0) (by decide)) (by decide)), hP.sub (ws' := [(h, oX11 th aw ai ab ac hi re aP ta po en be de fa a5 sp av an ak ne aW aC ag aT aN aF), (aw, .inl (cI, 2179, .inl fw)), (av, .inl (cI, 400, .inl fv))]) [0, 1, 2] rfl, hD.sub (ws' := [(h, oX11 th aw ai ab ac hi re aP ta po en be de fa a5 sp av an ak ne aW aC ag aT aN aF), (aw, .inl (cI, 2179, .inl fw)), (av, .inl (cI, 400, .inl fv))]) [0, 1, 2] (by decide) rfl, hS, lv_sub (l' := [(4, .int 0), (3, .int 0), (0, .ref h), (1, .int mm), (2, .int b)]) hl [0, 1, 2, 3, 4] rfl⟩ (fun u H locs ls hI ih718 => ?_)
  clear hP hD hS hl
  obtain ⟨y715, y716, g717⟩ := u
  obtain ⟨hX5_0, hX5_1, hX5_2, hy715, hy716, hP, hD, hS, hl⟩ := hI
  have hP : va_P D vwCl [(h, oX11 th aw ai ab ac hi re aP ta po en be de fa a5 sp av an ak ne aW aC ag aT aN aF), (aw, .inl (cI, 2179, .inl fw)), (av, .inl (cI, 400, .inl g717))] H := hP
  have hD : va_D A [(h, oX11 th aw ai ab ac hi re aP ta po en be de fa a5 sp av an ak ne aW aC ag aT aN aF), (aw, .inl (cI, 2179, .inl fw)), (av, .inl (cI, 400, .inl g717))] := hD
  have hl : lv_has ls 5 [(4, .int y715), (3, .int y716), (0, .ref h), (1, .int mm), (2, .int b)] := hl
  have k719 : Rg y716 0 11988 := (by have q1 := hX5_2; have q2 := hy715; unfold Rg at q2; exact ⟨by omega, by omega⟩)
  refine lv_aload_n hx hb dX11_costOf_5 rfl (lv_at hl 2 rfl) ?_
  refine va_get (D := D) (ci := 10) (v := .ref aw) (C := RX11) (T := TX11) (N := 26) hx hb hts iG_X11 hown hK hP 0 rfl rfl 1 (by decide) (hts _ w5_3) (fun _ h9 => h9) rfl dX11_costOf_6 ?_
  refine lv_iconst (v := 3) hx hb dX11_costOf_9 (by decide) ?_
  refine va_iald hx hb hK hP 1 0 rfl rfl (rg_in (rg_lit (n := 3) (by decide)) (by decide)) dX11_costOf_10 ?_
  refine lv_topi (fun x720 ex720 => ?_)
  refine lv_iconst (v := 1) hx hb dX11_costOf_11 (by decide) ?_
  refine lv_icmp_ne (tgt := 81) hx hb dX11_costOf_12 (by decide) (fun c762 => ?_) (fun c762 => ?_)
  · skip
    refine lv_iload_n hx hb dX11_costOf_81 rfl (lv_at hl 1 rfl) ?_
    have hP9 := hP.sub (ws' := [(h, oX11 th aw ai ab ac hi re aP ta po en be de fa a5 sp av an ak ne aW aC ag aT aN aF), (aw, .inl (cI, 2179, .inl fw)), (av, .inl (cI, 400, .inl g717))]) [0, 1, 2] rfl
    have hD9 := hD.sub (ws' := [(h, oX11 th aw ai ab ac hi re aP ta po en be de fa a5 sp av an ak ne aW aC ag aT aN aF), (aw, .inl (cI, 2179, .inl fw)), (av, .inl (cI, 400, .inl g717))]) [0, 1, 2] (by decide) rfl
    exact W.iret (v := y716) hx hb hr (fun t ht hW => ⟨⟨y716, (g717), rfl, ⟨(by unfold cF; rw [if_neg (fun q => c762 (Int32.toInt_inj.mp (by rw [ex720]; exact q)))]; exact Int32.toInt_inj.mp ((hX5_1).resolve_left (fun q => c762 (Int32.toInt_inj.mp (by rw [ex720]; exact q))))), k719⟩, by rw [ht]; exact hP9, va_K.moved hW.alike hK, hD9⟩, hS.F ht⟩) hS.2.2 dX11_costOf_82
  · skip
    have k763 : Rg x720 1 1 := rg_q1 (eqI c762) (rg_any x720) (rg_lit (n := 1) (by decide)) (by decide)
    refine lv_iload hx hb dX11_costOf_15 (lv_at hl 0 rfl) ?_
    refine lv_aload_n hx hb dX11_costOf_17 rfl (lv_at hl 2 rfl) ?_
    refine va_get (D := D) (ci := 10) (v := .ref aw) (C := RX11) (T := TX11) (N := 26) hx hb hts iG_X11 hown hK hP 0 rfl rfl 1 (by decide) (hts _ w5_3) (fun _ h9 => h9) rfl dX11_costOf_18 ?_
    refine lv_sipush (v := 505) hx hb dX11_costOf_21 (by decide) ?_
    refine va_iald hx hb hK hP 1 0 rfl rfl (rg_in (rg_lit (n := 505) (by decide)) (by decide)) dX11_costOf_24 ?_
    refine lv_topi (fun x764 ex764 => ?_)
    have k765 : Rg x764 0 12 := wL_505 H_fw_L ex764
    refine lv_icmp_ge (tgt := 81) hx hb dX11_costOf_25 (by decide) (fun c766 => ?_) (fun c766 => ?_)
    · skip
      refine lv_iload_n hx hb dX11_costOf_81 rfl (lv_at hl 1 rfl) ?_
      have hP9 := hP.sub (ws' := [(h, oX11 th aw ai ab ac hi re aP ta po en be de fa a5 sp av an ak ne aW aC ag aT aN aF), (aw, .inl (cI, 2179, .inl fw)), (av, .inl (cI, 400, .inl g717))]) [0, 1, 2] rfl
      have hD9 := hD.sub (ws' := [(h, oX11 th aw ai ab ac hi re aP ta po en be de fa a5 sp av an ak ne aW aC ag aT aN aF), (aw, .inl (cI, 2179, .inl fw)), (av, .inl (cI, 400, .inl g717))]) [0, 1, 2] (by decide) rfl
      exact W.iret (v := y716) hx hb hr (fun t ht hW => ⟨⟨y716, (g717), rfl, ⟨(by unfold cF; rw [if_pos (by have q1 := (eqI c762); have q2 : (1 : Int32).toInt = 1 := (by decide); rw [q2, ex720] at q1; exact q1)]; exact (cR_end (le_505 ex764 (leI c766))).symm.trans hX5_0), k719⟩, by rw [ht]; exact hP9, va_K.moved hW.alike hK, hD9⟩, hS.F ht⟩) hS.2.2 dX11_costOf_82
    · skip
      have k767 : Rg y715 0 11 := rg_l1 (nleI c766) hy715 k765 (by decide)
      have k768 : Rg x764 1 12 := rg_l2 (nleI c766) hy715 k765 (by decide)
      refine lv_iload_n hx hb dX11_costOf_28 rfl (lv_at hl 1 rfl) ?_
      refine lv_aload_n hx hb dX11_costOf_29 rfl (lv_at hl 2 rfl) ?_
      refine va_get (D := D) (ci := 10) (v := .ref aw) (C := RX11) (T := TX11) (N := 26) hx hb hts iG_X11 hown hK hP 0 rfl rfl 1 (by decide) (hts _ w5_3) (fun _ h9 => h9) rfl dX11_costOf_30 ?_
      refine lv_sipush (v := 506) hx hb dX11_costOf_33 (by decide) ?_
      refine lv_iconst (v := 3) hx hb dX11_costOf_36 (by decide) ?_
      refine lv_iload hx hb dX11_costOf_37 (lv_at hl 0 rfl) ?_
      refine lv_imul hx hb dX11_costOf_39 ?_
      refine lv_topi (fun x769 ex769 => ?_)
      have tx769 : x769.toInt = 3 * y715.toInt := ti_mul ex769 (rg_lit (n := 3) (by decide)) k767 (by decide) (by decide) rfl
      have k770 : Rg x769 0 33 := rg_mul ex769 (rg_lit (n := 3) (by decide)) k767 (by decide)
      refine lv_iadd hx hb dX11_costOf_40 ?_
      refine lv_topi (fun x771 ex771 => ?_)
      have tx771 : x771.toInt = 506 + x769.toInt := ti_add ex771 (rg_lit (n := 506) (by decide)) k770 (by decide) (by decide) rfl
      have k772 : Rg x771 506 539 := rg_add ex771 (rg_lit (n := 506) (by decide)) k770 (by decide)
      refine va_iald hx hb hK hP 1 0 rfl rfl (rg_in k772 (by decide)) dX11_costOf_41 ?_
      refine lv_topi (fun x773 ex773 => ?_)
      have hpx773 : x773 = fw (506 + 3 * cN y715) := by rw [ex773, cl_of (k := 506 + 3 * cN y715) k772 (by decide) (by simp only [cN]; have q4 := (eqI c762); have q6 := (nleI c766); have q7 := tx769; have q8 := tx771; have q10 := k767; have q11 : (0 : Int32).toInt = 0 := (by decide); have q12 : (1 : Int32).toInt = 1 := (by decide); unfold Rg at *; omega)]
      have k774 : Rg x773 (-1) 999 := (by rw [hpx773]; exact ((H_fw_L : wL fw).2 (cN y715) (by have q1 := (lt_505 ex764 (nleI c766)); have q2 := k767; unfold Rg at q2; simp only [cN]; omega)).1)
      refine lv_if_lt (tgt := 72) hx hb dX11_costOf_42 (by decide) (fun c791 => ?_) (fun c791 => ?_)
      · skip
        have k792 : Rg x773 (-1) (-1) := rg_l1 (ltI c791) k774 (rg_lit (n := 0) (by decide)) (by decide)
        refine lv_iconst (v := 0) hx hb dX11_costOf_72 (by decide) ?_
        refine lv_iadd hx hb dX11_costOf_73 ?_
        refine lv_topi (fun x793 ex793 => ?_)
        have tx793 : x793.toInt = y716.toInt + 0 := ti_add ex793 k719 (rg_lit (n := 0) (by decide)) (by decide) rfl (by decide)
        have k794 : Rg x793 0 11988 := rg_add ex793 k719 (rg_lit (n := 0) (by decide)) (by decide)
        refine lv_istore_n (lv' := [(3, .int x793), (4, .int y715), (0, .ref h), (1, .int mm), (2, .int b)]) hx hb dX11_costOf_74 rfl hl (by decide) rfl (fun ls hl => ?_)
        obtain ⟨x795, ex795⟩ : ∃ y : Int32, y = y715 + 1 := ⟨_, rfl⟩
        refine lv_iinc (v := x795) (lv' := [(4, .int x795), (3, .int x793), (0, .ref h), (1, .int mm), (2, .int b)]) hx hb dX11_costOf_75 hl (k := 1) rfl (by rw [ex795]; rfl) (by decide) rfl (fun ls hl => ?_)
        have k796 : Rg x795 1 12 := rg_add ex795 k767 (rg_lit (n := 1) (by decide)) (by decide)
        refine lv_goto (tgt := 5) hx hb dX11_costOf_78 (by decide) ?_
        exact ih718 (x795, x793, g717) _ _ _ (by show (12 - (x795).toInt).toNat < (12 - (y715).toInt).toNat; exact mu_up ex795 k767 k796 (by decide)) ⟨((cR_go (lt_505 ex764 (nleI c766)) (by have q1 := k767; unfold Rg at q1; omega) (ti_add (Y := 1) ex795 k767 (rg_lit (n := 1) (by decide)) (by decide) rfl (by decide)) ex793 (by rw [if_neg (fun q => by have q1 := q.1; rw [← hpx773] at q1; have q2 := (ltI c791); have q3 : (0 : Int32).toInt = 0 := (by decide); omega)])).symm.trans hX5_0), (Or.inl (by have q1 := (eqI c762); have q2 : (1 : Int32).toInt = 1 := (by decide); rw [q2, ex720] at q1; exact q1)), (by have q1 := hX5_2; have q2 := tx793; have q3 := (ti_add (Y := 1) ex795 k767 (rg_lit (n := 1) (by decide)) (by decide) rfl (by decide)); have q5 : (0 : Int32).toInt = 0 := (by decide); exact ⟨by omega, by omega⟩), (rg_w k796 (by decide)), (rg_w k794 (by decide)), hP.sub (ws' := [(h, oX11 th aw ai ab ac hi re aP ta po en be de fa a5 sp av an ak ne aW aC ag aT aN aF), (aw, .inl (cI, 2179, .inl fw)), (av, .inl (cI, 400, .inl g717))]) [0, 1, 2] rfl, hD.sub (ws' := [(h, oX11 th aw ai ab ac hi re aP ta po en be de fa a5 sp av an ak ne aW aC ag aT aN aF), (aw, .inl (cI, 2179, .inl fw)), (av, .inl (cI, 400, .inl g717))]) [0, 1, 2] (by decide) rfl, hS, lv_sub (l' := [(4, .int x795), (3, .int x793), (0, .ref h), (1, .int mm), (2, .int b)]) hl [0, 1, 2, 3, 4] rfl⟩
      · skip
        have k797 : Rg x773 0 999 := rg_e2 (nltI c791) (rg_lit (n := 0) (by decide)) k774 (by decide)
        refine lv_aload_n hx hb dX11_costOf_45 rfl (lv_at hl 2 rfl) ?_
        refine lv_iload hx hb dX11_costOf_46 (lv_at hl 0 rfl) ?_
        refine lv_iload_n hx hb dX11_costOf_48 rfl (lv_at hl 3 rfl) ?_
        refine lv_iload_n hx hb dX11_costOf_49 rfl (lv_at hl 4 rfl) ?_
        refine kcalli (wc := [(h, oX11 th aw ai ab ac hi re aP ta po en be de fa a5 sp av an ak ne aW aC ag aT aN aF), (aw, .inl (cI, 2179, .inl fw)), (av, .inl (cI, 400, .inl g717))]) (wr := []) hP hD hS hA [0, 1, 2] [] rfl rfl (by decide) (by decide) (by decide) (fun hPc hDc hFc => va_runV (As := [.int y715, .int mm, .int b]) (rest := [.int y716]) ⟨hx, hb, hml, hown, hts⟩ (r_holdsLinex l D cI cJ cB cC h th aw ai ab ac hi re aP ta po en be de fa a5 sp av an ak ne aW aC ag aT aN aF fw g717 y715 mm b H.size H_mm H_b k767 H_fw_W H_fw_L (lt_505 ex764 (nleI c766))) (cwV 3 hts gX11_costOf_X11_holdsLine rfl rfl rfl ⟨rfl, hdX11_holdsLine⟩ ⟨Nat.le_of_ble_eq_true rfl, Nat.le_of_ble_eq_true rfl⟩) ⟨kBlind, va_recv hK hPc (ci := 10) (q0 := 0) rfl rfl, fun U hU hW => ⟨rfl, by rw [hU], hN.warm hW, hE.pass hS hFc hW hU, by rw [hU]; exact hPc, va_K.moved hW.alike hK, hDc⟩⟩ rfl rfl hl.1 rfl (lv_room (Nat.le_of_ble_eq_true rfl)) dX11_costOf_50 ⟨Nat.le_of_ble_eq_true rfl, Nat.le_of_ble_eq_true rfl⟩) (fun r798 u H locs hw hP hD hS => ?_)
        obtain ⟨g799, rfl⟩ : ∃ z, z = u := ⟨_, rfl⟩
        have hP : va_P D vwCl [(h, oX11 th aw ai ab ac hi re aP ta po en be de fa a5 sp av an ak ne aW aC ag aT aN aF), (aw, .inl (cI, 2179, .inl fw)), (av, .inl (cI, 400, .inl g799))] H := hP
        have hD : va_D A [(h, oX11 th aw ai ab ac hi re aP ta po en be de fa a5 sp av an ak ne aW aC ag aT aN aF), (aw, .inl (cI, 2179, .inl fw)), (av, .inl (cI, 400, .inl g799))] := hD
        obtain ⟨k800, k801⟩ := hw
        refine lv_if_eq (tgt := 72) hx hb dX11_costOf_53 (by decide) (fun c802 => ?_) (fun c802 => ?_)
        · skip
          have k803 : Rg r798 0 0 := rg_q1 (eqI c802) k801 (rg_lit (n := 0) (by decide)) (by decide)
          refine lv_iconst (v := 0) hx hb dX11_costOf_72 (by decide) ?_
          refine lv_iadd hx hb dX11_costOf_73 ?_
          refine lv_topi (fun x804 ex804 => ?_)
          have tx804 : x804.toInt = y716.toInt + 0 := ti_add ex804 k719 (rg_lit (n := 0) (by decide)) (by decide) rfl (by decide)
          have k805 : Rg x804 0 11988 := rg_add ex804 k719 (rg_lit (n := 0) (by decide)) (by decide)
          refine lv_istore_n (lv' := [(3, .int x804), (4, .int y715), (0, .ref h), (1, .int mm), (2, .int b)]) hx hb dX11_costOf_74 rfl hl (by decide) rfl (fun ls hl => ?_)
          obtain ⟨x806, ex806⟩ : ∃ y : Int32, y = y715 + 1 := ⟨_, rfl⟩
          refine lv_iinc (v := x806) (lv' := [(4, .int x806), (3, .int x804), (0, .ref h), (1, .int mm), (2, .int b)]) hx hb dX11_costOf_75 hl (k := 1) rfl (by rw [ex806]; rfl) (by decide) rfl (fun ls hl => ?_)
          have k807 : Rg x806 1 12 := rg_add ex806 k767 (rg_lit (n := 1) (by decide)) (by decide)
          refine lv_goto (tgt := 5) hx hb dX11_costOf_78 (by decide) ?_
          exact ih718 (x806, x804, g799) _ _ _ (by show (12 - (x806).toInt).toNat < (12 - (y715).toInt).toNat; exact mu_up ex806 k767 k807 (by decide)) ⟨((cR_go (lt_505 ex764 (nleI c766)) (by have q1 := k767; unfold Rg at q1; omega) (ti_add (Y := 1) ex806 k767 (rg_lit (n := 1) (by decide)) (by decide) rfl (by decide)) ex804 (by rw [if_neg (fun q => q.2 (by rw [← k800]; exact (Int32.toInt_inj.mp (eqI c802))))])).symm.trans hX5_0), (Or.inl (by have q1 := (eqI c762); have q2 : (1 : Int32).toInt = 1 := (by decide); rw [q2, ex720] at q1; exact q1)), (by have q1 := hX5_2; have q2 := tx804; have q3 := (ti_add (Y := 1) ex806 k767 (rg_lit (n := 1) (by decide)) (by decide) rfl (by decide)); have q5 : (0 : Int32).toInt = 0 := (by decide); exact ⟨by omega, by omega⟩), (rg_w k807 (by decide)), (rg_w k805 (by decide)), hP.sub (ws' := [(h, oX11 th aw ai ab ac hi re aP ta po en be de fa a5 sp av an ak ne aW aC ag aT aN aF), (aw, .inl (cI, 2179, .inl fw)), (av, .inl (cI, 400, .inl g799))]) [0, 1, 2] rfl, hD.sub (ws' := [(h, oX11 th aw ai ab ac hi re aP ta po en be de fa a5 sp av an ak ne aW aC ag aT aN aF), (aw, .inl (cI, 2179, .inl fw)), (av, .inl (cI, 400, .inl g799))]) [0, 1, 2] (by decide) rfl, hS, lv_sub (l' := [(4, .int x806), (3, .int x804), (0, .ref h), (1, .int mm), (2, .int b)]) hl [0, 1, 2, 3, 4] rfl⟩
        · skip
          have k808 : Rg r798 1 1 := rg_n1 (neI c802) k801 (rg_lit (n := 0) (by decide)) (by decide)
          refine lv_aload_n hx hb dX11_costOf_56 rfl (lv_at hl 2 rfl) ?_
          refine va_get (D := D) (ci := 10) (v := .ref aw) (C := RX11) (T := TX11) (N := 26) hx hb hts iG_X11 hown hK hP 0 rfl rfl 1 (by decide) (hts _ w5_3) (fun _ h9 => h9) rfl dX11_costOf_57 ?_
          refine lv_sipush (v := 506) hx hb dX11_costOf_60 (by decide) ?_
          refine lv_iconst (v := 3) hx hb dX11_costOf_63 (by decide) ?_
          refine lv_iload hx hb dX11_costOf_64 (lv_at hl 0 rfl) ?_
          refine lv_imul hx hb dX11_costOf_66 ?_
          refine lv_topi (fun x809 ex809 => ?_)
          have tx809 : x809.toInt = 3 * y715.toInt := ti_mul ex809 (rg_lit (n := 3) (by decide)) k767 (by decide) (by decide) rfl
          have k810 : Rg x809 0 33 := rg_mul ex809 (rg_lit (n := 3) (by decide)) k767 (by decide)
          refine lv_iadd hx hb dX11_costOf_67 ?_
          refine lv_topi (fun x811 ex811 => ?_)
          have tx811 : x811.toInt = 506 + x809.toInt := ti_add ex811 (rg_lit (n := 506) (by decide)) k810 (by decide) (by decide) rfl
          have k812 : Rg x811 506 539 := rg_add ex811 (rg_lit (n := 506) (by decide)) k810 (by decide)
          refine va_iald hx hb hK hP 1 0 rfl rfl (rg_in k812 (by decide)) dX11_costOf_68 ?_
          refine lv_topi (fun x813 ex813 => ?_)
          have hpx813 : x813 = fw (506 + 3 * cN y715) := by rw [ex813, cl_of (k := 506 + 3 * cN y715) k812 (by decide) (by simp only [cN]; have q4 := (eqI c762); have q6 := (nleI c766); have q7 := tx769; have q8 := tx771; have q10 := (nltI c791); have q11 := (lt_505 ex764 (nleI c766)); have q13 := neI c802; have q14 := neI (Ne.symm c802); have q15 := tx809; have q16 := tx811; have q18 := k767; have q19 : (0 : Int32).toInt = 0 := (by decide); have q20 : (1 : Int32).toInt = 1 := (by decide); unfold Rg at *; omega)]
          have k814 : Rg x813 (-1) 999 := (by rw [hpx813]; exact ((H_fw_L : wL fw).2 (cN y715) (by have q1 := (lt_505 ex764 (nleI c766)); have q2 := k767; unfold Rg at q2; simp only [cN]; omega)).1)
          refine lv_goto (tgt := 73) hx hb dX11_costOf_69 (by decide) ?_
          refine lv_iadd hx hb dX11_costOf_73 ?_
          refine lv_topi (fun x815 ex815 => ?_)
          have tx815 : x815.toInt = y716.toInt + x813.toInt := ti_add ex815 k719 k814 (by decide) rfl rfl
          have k816 : Rg x815 (-1) 12987 := rg_add ex815 k719 k814 (by decide)
          refine lv_istore_n (lv' := [(3, .int x815), (4, .int y715), (0, .ref h), (1, .int mm), (2, .int b)]) hx hb dX11_costOf_74 rfl hl (by decide) rfl (fun ls hl => ?_)
          obtain ⟨x817, ex817⟩ : ∃ y : Int32, y = y715 + 1 := ⟨_, rfl⟩
          refine lv_iinc (v := x817) (lv' := [(4, .int x817), (3, .int x815), (0, .ref h), (1, .int mm), (2, .int b)]) hx hb dX11_costOf_75 hl (k := 1) rfl (by rw [ex817]; rfl) (by decide) rfl (fun ls hl => ?_)
          have k818 : Rg x817 1 12 := rg_add ex817 k767 (rg_lit (n := 1) (by decide)) (by decide)
          refine lv_goto (tgt := 5) hx hb dX11_costOf_78 (by decide) ?_
          exact ih718 (x817, x815, g799) _ _ _ (by show (12 - (x817).toInt).toNat < (12 - (y715).toInt).toNat; exact mu_up ex817 k767 k818 (by decide)) ⟨((cR_go (lt_505 ex764 (nleI c766)) (by have q1 := k767; unfold Rg at q1; omega) (ti_add (Y := 1) ex817 k767 (rg_lit (n := 1) (by decide)) (by decide) rfl (by decide)) ex815 (by rw [if_pos ⟨by rw [← hpx773]; exact (by have q1 := k797; unfold Rg at q1; omega), by rw [← k800]; exact c802⟩]; exact hpx813)).symm.trans hX5_0), (Or.inl (by have q1 := (eqI c762); have q2 : (1 : Int32).toInt = 1 := (by decide); rw [q2, ex720] at q1; exact q1)), (by have q1 := hX5_2; have q2 := tx815; have q3 := (ti_add (Y := 1) ex817 k767 (rg_lit (n := 1) (by decide)) (by decide) rfl (by decide)); have q4 := k797; unfold Rg at q4; have q6 : x813 = x773 := (hpx813.trans hpx773.symm); rw [q6] at q2; have q5 : (0 : Int32).toInt = 0 := (by decide); exact ⟨by omega, by omega⟩), (rg_w k818 (by decide)), k816, hP.sub (ws' := [(h, oX11 th aw ai ab ac hi re aP ta po en be de fa a5 sp av an ak ne aW aC ag aT aN aF), (aw, .inl (cI, 2179, .inl fw)), (av, .inl (cI, 400, .inl g799))]) [0, 1, 2] rfl, hD.sub (ws' := [(h, oX11 th aw ai ab ac hi re aP ta po en be de fa a5 sp av an ak ne aW aC ag aT aN aF), (aw, .inl (cI, 2179, .inl fw)), (av, .inl (cI, 400, .inl g799))]) [0, 1, 2] (by decide) rfl, hS, lv_sub (l' := [(4, .int x817), (3, .int x815), (0, .ref h), (1, .int mm), (2, .int b)]) hl [0, 1, 2, 3, 4] rfl⟩

set_option maxHeartbeats 4000000 in
set_option maxRecDepth 100000 in
/-- reference: givable -/
theorem r_givablex (l : Launch) (D : va_G) (cI cJ cB cC : ClassId) (h : Nat) (th : Int32) (aw : Nat) (ai : Nat) (ab : Nat) (ac : Nat) (hi : Int32) (re : Int32) (aP : Nat) (ta : Int32) (po : Int32) (en : Int32) (be : Int32) (de : Int32) (fa : Int32) (a5 : Nat) (sp : Int32) (av : Nat) (an : Nat) (ak : Nat) (ne : Int32) (aW : Nat) (aC : Nat) (ag : Nat) (aT : Nat) (aN : Nat) (aF : Nat) (fw : Nat → Int32) (fv : Nat → Int32) (mm : Int32) (sz : Nat) (H_mm : Rg mm 0 9) (H_fw_W : wW fw) (H_fw_L : wL fw) : Met l yX11_givable kwX11_givable ({ frames := 6, cells := 0, slots := 0, locals := 144 } : Room) (kPre D (kT cI cJ cB cC) sz [(h, oX11 th aw ai ab ac hi re aP ta po en be de fa a5 sp av an ak ne aW aC ag aT aN aF), (aw, .inl (cI, 2179, .inl fw)), (av, .inl (cI, 400, .inl fv))] [.ref h, .int mm]) (va_Qi (fun (r : Int32) (f0_ : (Nat → Int32)) => r = gF fw mm ∧ Rg r 0 4095) (fun (f0_ : (Nat → Int32)) (t : State) => kB D (kT cI cJ cB cC) (va_A [(h, oX11 th aw ai ab ac hi re aP ta po en be de fa a5 sp av an ak ne aW aC ag aT aN aF), (aw, .inl (cI, 2179, .inl fw)), (av, .inl (cI, 400, .inl fv))] sz) [(h, oX11 th aw ai ab ac hi re aP ta po en be de fa a5 sp av an ak ne aW aC ag aT aN aF), (aw, .inl (cI, 2179, .inl fw)), (av, .inl (cI, 400, .inl f0_))] t) (va_A [(h, oX11 th aw ai ab ac hi re aP ta po en be de fa a5 sp av an ak ne aW aC ag aT aN aF), (aw, .inl (cI, 2179, .inl fw)), (av, .inl (cI, 400, .inl fv))] sz)) 0 0 (va_A [(h, oX11 th aw ai ab ac hi re aP ta po en be de fa a5 sp av an ak ne aW aC ag aT aN aF), (aw, .inl (cI, 2179, .inl fw)), (av, .inl (cI, 400, .inl fv))] sz) := by
  refine Met.ofW (cc := cX11_givable) (maxL := 4) (ret := (some .int)) (by decide) rfl ?_
  intro p e s m args below meth c s₁ B hml hv
  obtain ⟨rfl, hsz, hN, hE, hP, hK, hD0⟩ := hv
  have hx := B.exec
  have hb := B.bytes
  have hr := B.returns
  have hts := fun (w : Cond) (h : w ∈ kG) => atoms_spec (ws := kwX11_givable) B.pre w (List.mem_cons_of_mem _ h)
  have hown : s.vm.findClass RX11 = some m.cls := findClass_of_methodNamed B.named
  subst hsz
  have hD := hD0.self (sz := s.heap.size)
  generalize hAe : va_A [(h, oX11 th aw ai ab ac hi re aP ta po en be de fa a5 sp av an ak ne aW aC ag aT aN aF), (aw, .inl (cI, 2179, .inl fw)), (av, .inl (cI, 400, .inl fv))] s.heap.size = A at hD hE ⊢
  have hA : ∀ q : Nat, s.heap.size ≤ q → A q := fun q h => by rw [← hAe]; exact Or.inr h
  have hl := lv_entry ([.ref h, .int mm]) (n := 4) (Nat.le_of_ble_eq_true rfl)
  rw [lg_entry_eq]
  generalize (lg_sl ([.ref h, .int mm]) ++ List.replicate (4 - (lg_sl ([.ref h, .int mm])).length) Slot.unset).toArray = ls at hl ⊢
  have hl : lv_has ls 4 [(0, .ref h), (1, .int mm)] := hl
  obtain ⟨H, hH0⟩ : ∃ H, H = s.heap := ⟨_, rfl⟩
  have hS : va_S A s.heap H [] := by rw [hH0]; exact va_S.rf
  have hP : va_P D vwCl [(h, oX11 th aw ai ab ac hi re aP ta po en be de fa a5 sp av an ak ne aW aC ag aT aN aF), (aw, .inl (cI, 2179, .inl fw)), (av, .inl (cI, 400, .inl fv))] H := by rw [hH0]; exact hP
  refine kHeap hH0 ?_
  clear hH0
  refine lv_iconst (v := 0) hx hb dX11_givable_0 (by decide) ?_
  refine lv_istore_n (lv' := [(2, .int 0), (0, .ref h), (1, .int mm)]) hx hb dX11_givable_1 rfl hl (by decide) rfl (fun ls hl => ?_)
  refine lv_iconst (v := 0) hx hb dX11_givable_2 (by decide) ?_
  refine lv_istore_n (lv' := [(3, .int 0), (2, .int 0), (0, .ref h), (1, .int mm)]) hx hb dX11_givable_3 rfl hl (by decide) rfl (fun ls hl => ?_)
  refine k_loop (hd := 4) (fun (u : Int32 × Int32 × (Nat → Int32)) => match u with | (y560, y561, g562) => (12 - (y560).toInt).toNat) (fun (u : Int32 × Int32 × (Nat → Int32)) (H : Heap) (locs : List Loc) (ls : Array Slot) => match u with | (y560, y561, g562) => (gRun fw mm (cN (fw 1) - cN y560) (cN y560) y561 = gF fw mm) ∧ Rg y560 0 12 ∧ Rg y561 0 4095 ∧ va_P D vwCl [(h, oX11 th aw ai ab ac hi re aP ta po en be de fa a5 sp av an ak ne aW aC ag aT aN aF), (aw, .inl (cI, 2179, .inl fw)), (av, .inl (cI, 400, .inl g562))] H ∧ va_D A [(h, oX11 th aw ai ab ac hi re aP ta po en be de fa a5 sp av an ak ne aW aC ag aT aN aF), (aw, .inl (cI, 2179, .inl fw)), (av, .inl (cI, 400, .inl g562))] ∧ va_S A s.heap H locs ∧ lv_has ls 4 [(3, .int y560), (2, .int y561), (0, .ref h), (1, .int mm)]) ((0 : Int32), (0 : Int32), fv) ⟨(by have q0 : cN (0 : Int32) = 0 := (by decide); rw [q0, Nat.sub_zero]; rfl), (rg_w (rg_lit (n := 0) (by decide)) (by decide)), (rg_w (rg_lit (n := 0) (by decide)) (by decide)), hP.sub (ws' := [(h, oX11 th aw ai ab ac hi re aP ta po en be de fa a5 sp av an ak ne aW aC ag aT aN aF), (aw, .inl (cI, 2179, .inl fw)), (av, .inl (cI, 400, .inl fv))]) [0, 1, 2] rfl, hD.sub (ws' := [(h, oX11 th aw ai ab ac hi re aP ta po en be de fa a5 sp av an ak ne aW aC ag aT aN aF), (aw, .inl (cI, 2179, .inl fw)), (av, .inl (cI, 400, .inl fv))]) [0, 1, 2] (by decide) rfl, hS, lv_sub (l' := [(3, .int 0), (2, .int 0), (0, .ref h), (1, .int mm)]) hl [0, 1, 2, 3] rfl⟩ (fun u H locs ls hI ih563 => ?_)
  clear hP hD hS hl
  obtain ⟨y560, y561, g562⟩ := u
  obtain ⟨hX4_0, hy560, hy561, hP, hD, hS, hl⟩ := hI
  have hP : va_P D vwCl [(h, oX11 th aw ai ab ac hi re aP ta po en be de fa a5 sp av an ak ne aW aC ag aT aN aF), (aw, .inl (cI, 2179, .inl fw)), (av, .inl (cI, 400, .inl g562))] H := hP
  have hD : va_D A [(h, oX11 th aw ai ab ac hi re aP ta po en be de fa a5 sp av an ak ne aW aC ag aT aN aF), (aw, .inl (cI, 2179, .inl fw)), (av, .inl (cI, 400, .inl g562))] := hD
  have hl : lv_has ls 4 [(3, .int y560), (2, .int y561), (0, .ref h), (1, .int mm)] := hl
  refine lv_iload_n hx hb dX11_givable_4 rfl (lv_at hl 0 rfl) ?_
  refine lv_aload_n hx hb dX11_givable_5 rfl (lv_at hl 2 rfl) ?_
  refine kpurei (wc := [(h, oX11 th aw ai ab ac hi re aP ta po en be de fa a5 sp av an ak ne aW aC ag aT aN aF), (aw, .inl (cI, 2179, .inl fw))]) hP hD hS hA [0, 1] rfl (by decide) (fun hPc hDc hFc => va_runV (As := []) (rest := [.int y560]) ⟨hx, hb, hml, hown, hts⟩ (r_shirts l D cI cJ cB cC h th aw ai ab ac hi re aP ta po en be de fa a5 sp av an ak ne aW aC ag aT aN aF fw H.size H_fw_W) (cwV 0 hts gX11_givable_X11_shirts rfl rfl rfl ⟨rfl, hdX11_shirts⟩ ⟨Nat.le_of_ble_eq_true rfl, Nat.le_of_ble_eq_true rfl⟩) ⟨kBlind, va_recv hK hPc (ci := 10) (q0 := 0) rfl rfl, fun U hU hW => ⟨rfl, by rw [hU], hN.warm hW, hE.pass hS hFc hW hU, by rw [hU]; exact hPc, va_K.moved hW.alike hK, hDc⟩⟩ rfl rfl hl.1 rfl (lv_room (Nat.le_of_ble_eq_true rfl)) dX11_givable_6 ⟨Nat.le_of_ble_eq_true rfl, Nat.le_of_ble_eq_true rfl⟩) (fun r564 u H locs hw hP hS => ?_)
  obtain ⟨k565, k566⟩ := hw
  refine lv_icmp_ge (tgt := 46) hx hb dX11_givable_9 (by decide) (fun c567 => ?_) (fun c567 => ?_)
  · skip
    refine lv_iload_n hx hb dX11_givable_46 rfl (lv_at hl 1 rfl) ?_
    have hP9 := hP.sub (ws' := [(h, oX11 th aw ai ab ac hi re aP ta po en be de fa a5 sp av an ak ne aW aC ag aT aN aF), (aw, .inl (cI, 2179, .inl fw)), (av, .inl (cI, 400, .inl g562))]) [0, 1, 2] rfl
    have hD9 := hD.sub (ws' := [(h, oX11 th aw ai ab ac hi re aP ta po en be de fa a5 sp av an ak ne aW aC ag aT aN aF), (aw, .inl (cI, 2179, .inl fw)), (av, .inl (cI, 400, .inl g562))]) [0, 1, 2] (by decide) rfl
    exact W.iret (v := y561) hx hb hr (fun t ht hW => ⟨⟨y561, (g562), rfl, ⟨((gR_end (by have q1 := (leI c567); rw [k565] at q1; exact q1)).symm.trans hX4_0), hy561⟩, by rw [ht]; exact hP9, va_K.moved hW.alike hK, hD9⟩, hS.F ht⟩) hS.2.2 dX11_givable_47
  · skip
    have k568 : Rg y560 0 11 := rg_l1 (nleI c567) hy560 k566 (by decide)
    have k569 : Rg r564 1 12 := rg_l2 (nleI c567) hy560 k566 (by decide)
    refine lv_iload_n hx hb dX11_givable_12 rfl (lv_at hl 1 rfl) ?_
    refine lv_aload_n hx hb dX11_givable_13 rfl (lv_at hl 2 rfl) ?_
    refine lv_iload_n hx hb dX11_givable_14 rfl (lv_at hl 0 rfl) ?_
    refine lv_iconst (v := 5) hx hb dX11_givable_15 (by decide) ?_
    refine kpurei (wc := [(h, oX11 th aw ai ab ac hi re aP ta po en be de fa a5 sp av an ak ne aW aC ag aT aN aF), (aw, .inl (cI, 2179, .inl fw))]) hP hD hS hA [0, 1] rfl (by decide) (fun hPc hDc hFc => va_runV (As := [.int y560, .int 5]) (rest := [.int y561]) ⟨hx, hb, hml, hown, hts⟩ (r_of5 l D cI cJ cB cC h th aw ai ab ac hi re aP ta po en be de fa a5 sp av an ak ne aW aC ag aT aN aF fw y560 H.size k568 H_fw_W) (cwV 2 hts gX11_givable_X11_of rfl rfl rfl ⟨rfl, hdX11_of⟩ ⟨Nat.le_of_ble_eq_true rfl, Nat.le_of_ble_eq_true rfl⟩) ⟨kBlind, va_recv hK hPc (ci := 10) (q0 := 0) rfl rfl, fun U hU hW => ⟨rfl, by rw [hU], hN.warm hW, hE.pass hS hFc hW hU, by rw [hU]; exact hPc, va_K.moved hW.alike hK, hDc⟩⟩ rfl rfl hl.1 rfl (lv_room (Nat.le_of_ble_eq_true rfl)) dX11_givable_16 ⟨Nat.le_of_ble_eq_true rfl, Nat.le_of_ble_eq_true rfl⟩) (fun r570 u H locs hw hP hS => ?_)
    obtain ⟨k571, k572⟩ := hw
    refine lv_if_ge (tgt := 37) hx hb dX11_givable_19 (by decide) (fun c585 => ?_) (fun c585 => ?_)
    · skip
      have k586 : Rg r570 0 9 := rg_e2 (leI c585) (rg_lit (n := 0) (by decide)) k572 (by decide)
      refine lv_iconst (v := 0) hx hb dX11_givable_37 (by decide) ?_
      refine lv_ior hx hb dX11_givable_38 ?_
      refine lv_topi (fun x587 ex587 => ?_)
      have k588 : Rg x587 0 4095 := rg_or 12 ex587 hy561 (rg_lit (n := 0) (by decide)) (by decide)
      refine lv_istore_n (lv' := [(2, .int x587), (3, .int y560), (0, .ref h), (1, .int mm)]) hx hb dX11_givable_39 rfl hl (by decide) rfl (fun ls hl => ?_)
      obtain ⟨x589, ex589⟩ : ∃ y : Int32, y = y560 + 1 := ⟨_, rfl⟩
      refine lv_iinc (v := x589) (lv' := [(3, .int x589), (2, .int x587), (0, .ref h), (1, .int mm)]) hx hb dX11_givable_40 hl (k := 1) rfl (by rw [ex589]; rfl) (by decide) rfl (fun ls hl => ?_)
      have k590 : Rg x589 1 12 := rg_add ex589 k568 (rg_lit (n := 1) (by decide)) (by decide)
      refine lv_goto (tgt := 4) hx hb dX11_givable_43 (by decide) ?_
      exact ih563 (x589, x587, g562) _ _ _ (by show (12 - (x589).toInt).toNat < (12 - (y560).toInt).toNat; exact mu_up ex589 k568 k590 (by decide)) ⟨((gR_go (by have q1 := (nleI c567); rw [k565] at q1; exact q1) k568 (ti_add (Y := 1) ex589 k568 (rg_lit (n := 1) (by decide)) (by decide) rfl (by decide)) ex587 (by rw [← k571, if_neg (fun q => by have q1 := q.1; have q2 := (leI c585); have q3 : (0 : Int32).toInt = 0 := (by decide); omega)])).symm.trans hX4_0), (rg_w k590 (by decide)), k588, hP.sub (ws' := [(h, oX11 th aw ai ab ac hi re aP ta po en be de fa a5 sp av an ak ne aW aC ag aT aN aF), (aw, .inl (cI, 2179, .inl fw)), (av, .inl (cI, 400, .inl g562))]) [0, 1, 2] rfl, hD.sub (ws' := [(h, oX11 th aw ai ab ac hi re aP ta po en be de fa a5 sp av an ak ne aW aC ag aT aN aF), (aw, .inl (cI, 2179, .inl fw)), (av, .inl (cI, 400, .inl g562))]) [0, 1, 2] (by decide) rfl, hS, lv_sub (l' := [(3, .int x589), (2, .int x587), (0, .ref h), (1, .int mm)]) hl [0, 1, 2, 3] rfl⟩
    · skip
      have k591 : Rg r570 (-1) (-1) := rg_l1 (nleI c585) k572 (rg_lit (n := 0) (by decide)) (by decide)
      refine lv_aload_n hx hb dX11_givable_22 rfl (lv_at hl 2 rfl) ?_
      refine lv_iload_n hx hb dX11_givable_23 rfl (lv_at hl 3 rfl) ?_
      refine lv_iload_n hx hb dX11_givable_24 rfl (lv_at hl 0 rfl) ?_
      refine kcalli (wc := [(h, oX11 th aw ai ab ac hi re aP ta po en be de fa a5 sp av an ak ne aW aC ag aT aN aF), (aw, .inl (cI, 2179, .inl fw)), (av, .inl (cI, 400, .inl g562))]) (wr := []) hP hD hS hA [0, 1, 2] [] rfl rfl (by decide) (by decide) (by decide) (fun hPc hDc hFc => va_runV (As := [.int mm, .int y560]) (rest := [.int y561]) ⟨hx, hb, hml, hown, hts⟩ (r_isBarredx l D cI cJ cB cC h th aw ai ab ac hi re aP ta po en be de fa a5 sp av an ak ne aW aC ag aT aN aF fw g562 mm y560 H.size H_mm k568 H_fw_W H_fw_L) (cwV 2 hts gX11_givable_X11_isBarred rfl rfl rfl ⟨rfl, hdX11_isBarred⟩ ⟨Nat.le_of_ble_eq_true rfl, Nat.le_of_ble_eq_true rfl⟩) ⟨kBlind, va_recv hK hPc (ci := 10) (q0 := 0) rfl rfl, fun U hU hW => ⟨rfl, by rw [hU], hN.warm hW, hE.pass hS hFc hW hU, by rw [hU]; exact hPc, va_K.moved hW.alike hK, hDc⟩⟩ rfl rfl hl.1 rfl (lv_room (Nat.le_of_ble_eq_true rfl)) dX11_givable_25 ⟨Nat.le_of_ble_eq_true rfl, Nat.le_of_ble_eq_true rfl⟩) (fun r592 u H locs hw hP hD hS => ?_)
      obtain ⟨g593, rfl⟩ : ∃ z, z = u := ⟨_, rfl⟩
      have hP : va_P D vwCl [(h, oX11 th aw ai ab ac hi re aP ta po en be de fa a5 sp av an ak ne aW aC ag aT aN aF), (aw, .inl (cI, 2179, .inl fw)), (av, .inl (cI, 400, .inl g593))] H := hP
      have hD : va_D A [(h, oX11 th aw ai ab ac hi re aP ta po en be de fa a5 sp av an ak ne aW aC ag aT aN aF), (aw, .inl (cI, 2179, .inl fw)), (av, .inl (cI, 400, .inl g593))] := hD
      obtain ⟨k594, k595⟩ := hw
      refine lv_if_ne (tgt := 37) hx hb dX11_givable_28 (by decide) (fun c596 => ?_) (fun c596 => ?_)
      · skip
        have k597 : Rg r592 1 1 := rg_n1 (neI c596) k595 (rg_lit (n := 0) (by decide)) (by decide)
        refine lv_iconst (v := 0) hx hb dX11_givable_37 (by decide) ?_
        refine lv_ior hx hb dX11_givable_38 ?_
        refine lv_topi (fun x598 ex598 => ?_)
        have k599 : Rg x598 0 4095 := rg_or 12 ex598 hy561 (rg_lit (n := 0) (by decide)) (by decide)
        refine lv_istore_n (lv' := [(2, .int x598), (3, .int y560), (0, .ref h), (1, .int mm)]) hx hb dX11_givable_39 rfl hl (by decide) rfl (fun ls hl => ?_)
        obtain ⟨x600, ex600⟩ : ∃ y : Int32, y = y560 + 1 := ⟨_, rfl⟩
        refine lv_iinc (v := x600) (lv' := [(3, .int x600), (2, .int x598), (0, .ref h), (1, .int mm)]) hx hb dX11_givable_40 hl (k := 1) rfl (by rw [ex600]; rfl) (by decide) rfl (fun ls hl => ?_)
        have k601 : Rg x600 1 12 := rg_add ex600 k568 (rg_lit (n := 1) (by decide)) (by decide)
        refine lv_goto (tgt := 4) hx hb dX11_givable_43 (by decide) ?_
        exact ih563 (x600, x598, g593) _ _ _ (by show (12 - (x600).toInt).toNat < (12 - (y560).toInt).toNat; exact mu_up ex600 k568 k601 (by decide)) ⟨((gR_go (by have q1 := (nleI c567); rw [k565] at q1; exact q1) k568 (ti_add (Y := 1) ex600 k568 (rg_lit (n := 1) (by decide)) (by decide) rfl (by decide)) ex598 (by rw [← k571, ← k594, if_neg (fun q => c596 q.2)])).symm.trans hX4_0), (rg_w k601 (by decide)), k599, hP.sub (ws' := [(h, oX11 th aw ai ab ac hi re aP ta po en be de fa a5 sp av an ak ne aW aC ag aT aN aF), (aw, .inl (cI, 2179, .inl fw)), (av, .inl (cI, 400, .inl g593))]) [0, 1, 2] rfl, hD.sub (ws' := [(h, oX11 th aw ai ab ac hi re aP ta po en be de fa a5 sp av an ak ne aW aC ag aT aN aF), (aw, .inl (cI, 2179, .inl fw)), (av, .inl (cI, 400, .inl g593))]) [0, 1, 2] (by decide) rfl, hS, lv_sub (l' := [(3, .int x600), (2, .int x598), (0, .ref h), (1, .int mm)]) hl [0, 1, 2, 3] rfl⟩
      · skip
        have k602 : Rg r592 0 0 := rg_q1 (eqI c596) k595 (rg_lit (n := 0) (by decide)) (by decide)
        refine lv_iconst (v := 1) hx hb dX11_givable_31 (by decide) ?_
        refine lv_iload_n hx hb dX11_givable_32 rfl (lv_at hl 0 rfl) ?_
        refine lv_ishl hx hb dX11_givable_33 ?_
        refine lv_topi (fun x603 ex603 => ?_)
        have k604 : Rg x603 1 2048 := rg_shl1 11 ex603 k568 (by decide)
        refine lv_goto (tgt := 38) hx hb dX11_givable_34 (by decide) ?_
        refine lv_ior hx hb dX11_givable_38 ?_
        refine lv_topi (fun x605 ex605 => ?_)
        have k606 : Rg x605 0 4095 := rg_or 12 ex605 hy561 k604 (by decide)
        refine lv_istore_n (lv' := [(2, .int x605), (3, .int y560), (0, .ref h), (1, .int mm)]) hx hb dX11_givable_39 rfl hl (by decide) rfl (fun ls hl => ?_)
        obtain ⟨x607, ex607⟩ : ∃ y : Int32, y = y560 + 1 := ⟨_, rfl⟩
        refine lv_iinc (v := x607) (lv' := [(3, .int x607), (2, .int x605), (0, .ref h), (1, .int mm)]) hx hb dX11_givable_40 hl (k := 1) rfl (by rw [ex607]; rfl) (by decide) rfl (fun ls hl => ?_)
        have k608 : Rg x607 1 12 := rg_add ex607 k568 (rg_lit (n := 1) (by decide)) (by decide)
        refine lv_goto (tgt := 4) hx hb dX11_givable_43 (by decide) ?_
        exact ih563 (x607, x605, g593) _ _ _ (by show (12 - (x607).toInt).toNat < (12 - (y560).toInt).toNat; exact mu_up ex607 k568 k608 (by decide)) ⟨((gR_go (by have q1 := (nleI c567); rw [k565] at q1; exact q1) k568 (ti_add (Y := 1) ex607 k568 (rg_lit (n := 1) (by decide)) (by decide) rfl (by decide)) ex605 (by rw [← k571, ← k594, if_pos ⟨(by have q1 := (nleI c585); have q2 : (0 : Int32).toInt = 0 := (by decide); omega), (Int32.toInt_inj.mp (eqI c596))⟩]; exact ex603)).symm.trans hX4_0), (rg_w k608 (by decide)), k606, hP.sub (ws' := [(h, oX11 th aw ai ab ac hi re aP ta po en be de fa a5 sp av an ak ne aW aC ag aT aN aF), (aw, .inl (cI, 2179, .inl fw)), (av, .inl (cI, 400, .inl g593))]) [0, 1, 2] rfl, hD.sub (ws' := [(h, oX11 th aw ai ab ac hi re aP ta po en be de fa a5 sp av an ak ne aW aC ag aT aN aF), (aw, .inl (cI, 2179, .inl fw)), (av, .inl (cI, 400, .inl g593))]) [0, 1, 2] (by decide) rfl, hS, lv_sub (l' := [(3, .int x607), (2, .int x605), (0, .ref h), (1, .int mm)]) hl [0, 1, 2, 3] rfl⟩

set_option maxHeartbeats 4000000 in
set_option maxRecDepth 100000 in
/-- reference: looks -/
theorem r_looksx (l : Launch) (D : va_G) (cI cJ cB cC : ClassId) (h : Nat) (th : Int32) (aw : Nat) (ai : Nat) (ab : Nat) (ac : Nat) (hi : Int32) (re : Int32) (aP : Nat) (ta : Int32) (po : Int32) (en : Int32) (be : Int32) (de : Int32) (fa : Int32) (a5 : Nat) (sp : Int32) (av : Nat) (an : Nat) (ak : Nat) (ne : Int32) (aW : Nat) (aC : Nat) (ag : Nat) (aT : Nat) (aN : Nat) (aF : Nat) (fw : Nat → Int32) (fv : Nat → Int32) (fn : Nat → Int32) (fk : Nat → Int32) (sz : Nat) (H_fw_W : wW fw) (H_fw_L : wL fw) (H_fn_N : wN fn) (H_fk_K : wK fk) : Met l yX11_looks kwX11_looks ({ frames := 7, cells := 0, slots := 0, locals := 167 } : Room) (kPre D (kT cI cJ cB cC) sz [(h, oX11 th aw ai ab ac hi re aP ta po en be de fa a5 sp av an ak ne aW aC ag aT aN aF), (aw, .inl (cI, 2179, .inl fw)), (av, .inl (cI, 400, .inl fv)), (an, .inl (cI, 10, .inl fn)), (ak, .inl (cI, 10, .inl fk))] [.ref h]) (va_Qv (fun (uu : Int32 × (Nat → Int32) × (Nat → Int32) × (Nat → Int32)) => match uu with | (n0_, f1_, f2_, f3_) => Rg n0_ 0 10 ∧ wN f2_ ∧ wK f3_ ∧ (lkP fw f2_ f3_ n0_ (cN (fw 0)))) (fun (uu : Int32 × (Nat → Int32) × (Nat → Int32) × (Nat → Int32)) (t : State) => match uu with | (n0_, f1_, f2_, f3_) => kB D (kT cI cJ cB cC) (va_A [(h, oX11 th aw ai ab ac hi re aP ta po en be de fa a5 sp av an ak ne aW aC ag aT aN aF), (aw, .inl (cI, 2179, .inl fw)), (av, .inl (cI, 400, .inl fv)), (an, .inl (cI, 10, .inl fn)), (ak, .inl (cI, 10, .inl fk))] sz) [(h, oX11 th aw ai ab ac hi re aP ta po en be de fa a5 sp av an ak n0_ aW aC ag aT aN aF), (aw, .inl (cI, 2179, .inl fw)), (av, .inl (cI, 400, .inl f1_)), (an, .inl (cI, 10, .inl f2_)), (ak, .inl (cI, 10, .inl f3_))] t) (va_A [(h, oX11 th aw ai ab ac hi re aP ta po en be de fa a5 sp av an ak ne aW aC ag aT aN aF), (aw, .inl (cI, 2179, .inl fw)), (av, .inl (cI, 400, .inl fv)), (an, .inl (cI, 10, .inl fn)), (ak, .inl (cI, 10, .inl fk))] sz)) 0 0 (va_A [(h, oX11 th aw ai ab ac hi re aP ta po en be de fa a5 sp av an ak ne aW aC ag aT aN aF), (aw, .inl (cI, 2179, .inl fw)), (av, .inl (cI, 400, .inl fv)), (an, .inl (cI, 10, .inl fn)), (ak, .inl (cI, 10, .inl fk))] sz) := by
  refine Met.ofW (cc := cX11_looks) (maxL := 2) (ret := none) (by decide) rfl ?_
  intro p e s m args below meth c s₁ B hml hv
  obtain ⟨rfl, hsz, hN, hE, hP, hK, hD0⟩ := hv
  have hx := B.exec
  have hb := B.bytes
  have hr := B.returns
  have hts := fun (w : Cond) (h : w ∈ kG) => atoms_spec (ws := kwX11_looks) B.pre w (List.mem_cons_of_mem _ h)
  have hown : s.vm.findClass RX11 = some m.cls := findClass_of_methodNamed B.named
  subst hsz
  have hD := hD0.self (sz := s.heap.size)
  generalize hAe : va_A [(h, oX11 th aw ai ab ac hi re aP ta po en be de fa a5 sp av an ak ne aW aC ag aT aN aF), (aw, .inl (cI, 2179, .inl fw)), (av, .inl (cI, 400, .inl fv)), (an, .inl (cI, 10, .inl fn)), (ak, .inl (cI, 10, .inl fk))] s.heap.size = A at hD hE ⊢
  have hA : ∀ q : Nat, s.heap.size ≤ q → A q := fun q h => by rw [← hAe]; exact Or.inr h
  have hl := lv_entry ([.ref h]) (n := 2) (Nat.le_of_ble_eq_true rfl)
  rw [lg_entry_eq]
  generalize (lg_sl ([.ref h]) ++ List.replicate (2 - (lg_sl ([.ref h])).length) Slot.unset).toArray = ls at hl ⊢
  have hl : lv_has ls 2 [(0, .ref h)] := hl
  obtain ⟨H, hH0⟩ : ∃ H, H = s.heap := ⟨_, rfl⟩
  have hS : va_S A s.heap H [] := by rw [hH0]; exact va_S.rf
  have hP : va_P D vwCl [(h, oX11 th aw ai ab ac hi re aP ta po en be de fa a5 sp av an ak ne aW aC ag aT aN aF), (aw, .inl (cI, 2179, .inl fw)), (av, .inl (cI, 400, .inl fv)), (an, .inl (cI, 10, .inl fn)), (ak, .inl (cI, 10, .inl fk))] H := by rw [hH0]; exact hP
  refine kHeap hH0 ?_
  clear hH0
  refine lv_aload_n hx hb dX11_looks_0 rfl (lv_at hl 0 rfl) ?_
  refine lv_iconst (v := 0) hx hb dX11_looks_1 (by decide) ?_
  refine va_put (D := D) (ci := 10) (v := .int 0) (ty := .int) (C := RX11) (T := TX11) (N := 26) hx hb hts iG_X11 tyX11 tyX11_ok nmX11 hown hK hP hD hS 0 rfl rfl 19 (by decide) (hts _ w40_7) (fun _ h9 => h9) rfl (by decide +kernel) rfl rfl (Nat.le_of_ble_eq_true rfl) dX11_looks_2 (fun H locs hP hD hS => ?_)
  have hP : va_P D vwCl [(h, oX11 th aw ai ab ac hi re aP ta po en be de fa a5 sp av an ak 0 aW aC ag aT aN aF), (aw, .inl (cI, 2179, .inl fw)), (av, .inl (cI, 400, .inl fv)), (an, .inl (cI, 10, .inl fn)), (ak, .inl (cI, 10, .inl fk))] H := hP
  have hD : va_D A [(h, oX11 th aw ai ab ac hi re aP ta po en be de fa a5 sp av an ak 0 aW aC ag aT aN aF), (aw, .inl (cI, 2179, .inl fw)), (av, .inl (cI, 400, .inl fv)), (an, .inl (cI, 10, .inl fn)), (ak, .inl (cI, 10, .inl fk))] := hD
  refine lv_iconst (v := 0) hx hb dX11_looks_5 (by decide) ?_
  refine lv_istore_n (lv' := [(1, .int 0), (0, .ref h)]) hx hb dX11_looks_6 rfl hl (by decide) rfl (fun ls hl => ?_)
  refine k_loop (hd := 7) (fun (u : Int32 × Int32 × (Nat → Int32) × (Nat → Int32) × (Nat → Int32)) => match u with | (y510, y511, g512, g513, g514) => (10 - (y510).toInt).toNat) (fun (u : Int32 × Int32 × (Nat → Int32) × (Nat → Int32) × (Nat → Int32)) (H : Heap) (locs : List Loc) (ls : Array Slot) => match u with | (y510, y511, g512, g513, g514) => (0 ≤ (y511 : Int32).toInt ∧ (y511 : Int32).toInt ≤ (y510 : Int32).toInt) ∧ (lkP fw g513 g514 y511 (cN y510)) ∧ ((y510 : Int32).toInt ≤ (fw 0).toInt) ∧ Rg y510 0 10 ∧ Rg y511 0 10 ∧ wN g513 ∧ wK g514 ∧ va_P D vwCl [(h, oX11 th aw ai ab ac hi re aP ta po en be de fa a5 sp av an ak y511 aW aC ag aT aN aF), (aw, .inl (cI, 2179, .inl fw)), (av, .inl (cI, 400, .inl g512)), (an, .inl (cI, 10, .inl g513)), (ak, .inl (cI, 10, .inl g514))] H ∧ va_D A [(h, oX11 th aw ai ab ac hi re aP ta po en be de fa a5 sp av an ak y511 aW aC ag aT aN aF), (aw, .inl (cI, 2179, .inl fw)), (av, .inl (cI, 400, .inl g512)), (an, .inl (cI, 10, .inl g513)), (ak, .inl (cI, 10, .inl g514))] ∧ va_S A s.heap H locs ∧ lv_has ls 2 [(1, .int y510), (0, .ref h)]) ((0 : Int32), (0 : Int32), fv, fn, fk) ⟨⟨by decide, Int.le_refl _⟩, lk_0, (by have q1 := (H_fw_W : wW fw).1.1.1; have q2 : (0 : Int32).toInt = 0 := (by decide); omega), (rg_w (rg_lit (n := 0) (by decide)) (by decide)), (rg_w (rg_lit (n := 0) (by decide)) (by decide)), H_fn_N, H_fk_K, hP.sub (ws' := [(h, oX11 th aw ai ab ac hi re aP ta po en be de fa a5 sp av an ak 0 aW aC ag aT aN aF), (aw, .inl (cI, 2179, .inl fw)), (av, .inl (cI, 400, .inl fv)), (an, .inl (cI, 10, .inl fn)), (ak, .inl (cI, 10, .inl fk))]) [0, 1, 2, 3, 4] rfl, hD.sub (ws' := [(h, oX11 th aw ai ab ac hi re aP ta po en be de fa a5 sp av an ak 0 aW aC ag aT aN aF), (aw, .inl (cI, 2179, .inl fw)), (av, .inl (cI, 400, .inl fv)), (an, .inl (cI, 10, .inl fn)), (ak, .inl (cI, 10, .inl fk))]) [0, 1, 2, 3, 4] (by decide) rfl, hS, lv_sub (l' := [(1, .int 0), (0, .ref h)]) hl [0, 1] rfl⟩ (fun u H locs ls hI ih515 => ?_)
  clear hP hD hS hl
  obtain ⟨y510, y511, g512, g513, g514⟩ := u
  obtain ⟨hX7_0, hX7_1, hX7_2, hy510, hy511, hg513_0, hg514_0, hP, hD, hS, hl⟩ := hI
  have hP : va_P D vwCl [(h, oX11 th aw ai ab ac hi re aP ta po en be de fa a5 sp av an ak y511 aW aC ag aT aN aF), (aw, .inl (cI, 2179, .inl fw)), (av, .inl (cI, 400, .inl g512)), (an, .inl (cI, 10, .inl g513)), (ak, .inl (cI, 10, .inl g514))] H := hP
  have hD : va_D A [(h, oX11 th aw ai ab ac hi re aP ta po en be de fa a5 sp av an ak y511 aW aC ag aT aN aF), (aw, .inl (cI, 2179, .inl fw)), (av, .inl (cI, 400, .inl g512)), (an, .inl (cI, 10, .inl g513)), (ak, .inl (cI, 10, .inl g514))] := hD
  have hl : lv_has ls 2 [(1, .int y510), (0, .ref h)] := hl
  refine lv_iload_n hx hb dX11_looks_7 rfl (lv_at hl 0 rfl) ?_
  refine lv_aload_n hx hb dX11_looks_8 rfl (lv_at hl 1 rfl) ?_
  refine kpurei (wc := [(h, oX11 th aw ai ab ac hi re aP ta po en be de fa a5 sp av an ak y511 aW aC ag aT aN aF), (aw, .inl (cI, 2179, .inl fw))]) hP hD hS hA [0, 1] rfl (by decide) (fun hPc hDc hFc => va_runV (As := []) (rest := [.int y510]) ⟨hx, hb, hml, hown, hts⟩ (r_men l D cI cJ cB cC h th aw ai ab ac hi re aP ta po en be de fa a5 sp av an ak y511 aW aC ag aT aN aF fw H.size H_fw_W) (cwV 0 hts gX11_looks_X11_men rfl rfl rfl ⟨rfl, hdX11_men⟩ ⟨Nat.le_of_ble_eq_true rfl, Nat.le_of_ble_eq_true rfl⟩) ⟨kBlind, va_recv hK hPc (ci := 10) (q0 := 0) rfl rfl, fun U hU hW => ⟨rfl, by rw [hU], hN.warm hW, hE.pass hS hFc hW hU, by rw [hU]; exact hPc, va_K.moved hW.alike hK, hDc⟩⟩ rfl rfl hl.1 rfl (lv_room (Nat.le_of_ble_eq_true rfl)) dX11_looks_9 ⟨Nat.le_of_ble_eq_true rfl, Nat.le_of_ble_eq_true rfl⟩) (fun r516 u H locs hw hP hS => ?_)
  obtain ⟨k517, k518⟩ := hw
  refine lv_icmp_ge (tgt := 67) hx hb dX11_looks_12 (by decide) (fun c519 => ?_) (fun c519 => ?_)
  · skip
    have hP9 := hP.sub (ws' := [(h, oX11 th aw ai ab ac hi re aP ta po en be de fa a5 sp av an ak y511 aW aC ag aT aN aF), (aw, .inl (cI, 2179, .inl fw)), (av, .inl (cI, 400, .inl g512)), (an, .inl (cI, 10, .inl g513)), (ak, .inl (cI, 10, .inl g514))]) [0, 1, 2, 3, 4] rfl
    have hD9 := hD.sub (ws' := [(h, oX11 th aw ai ab ac hi re aP ta po en be de fa a5 sp av an ak y511 aW aC ag aT aN aF), (aw, .inl (cI, 2179, .inl fw)), (av, .inl (cI, 400, .inl g512)), (an, .inl (cI, 10, .inl g513)), (ak, .inl (cI, 10, .inl g514))]) [0, 1, 2, 3, 4] (by decide) rfl
    exact W.vret hx hb hr (fun t ht hW => ⟨⟨(y511, g512, g513, g514), rfl, ⟨hy511, hg513_0, hg514_0, (by have q1 := (by have q1 := (leI c519); rw [k517] at q1; exact q1); have q2 := hX7_2; have q3 : cN y510 = cN (fw 0) := (by simp only [cN]; omega); rw [← q3]; exact hX7_1)⟩, by rw [ht]; exact hP9, va_K.moved hW.alike hK, hD9⟩, hS.F ht⟩) hS.2.2 dX11_looks_67
  · skip
    have k520 : Rg y510 0 9 := rg_l1 (nleI c519) hy510 k518 (by decide)
    have k521 : Rg r516 1 10 := rg_l2 (nleI c519) hy510 k518 (by decide)
    have k522 : Rg y511 0 9 := (by have q1 := hX7_0; have q2 := k520; unfold Rg at *; exact ⟨by omega, by omega⟩)
    refine lv_aload_n hx hb dX11_looks_15 rfl (lv_at hl 1 rfl) ?_
    refine lv_iload_n hx hb dX11_looks_16 rfl (lv_at hl 0 rfl) ?_
    refine lv_iconst (v := 4) hx hb dX11_looks_17 (by decide) ?_
    refine kpurei (wc := [(h, oX11 th aw ai ab ac hi re aP ta po en be de fa a5 sp av an ak y511 aW aC ag aT aN aF), (aw, .inl (cI, 2179, .inl fw))]) hP hD hS hA [0, 1] rfl (by decide) (fun hPc hDc hFc => va_runV (As := [.int y510, .int 4]) (rest := []) ⟨hx, hb, hml, hown, hts⟩ (r_ofMan4 l D cI cJ cB cC h th aw ai ab ac hi re aP ta po en be de fa a5 sp av an ak y511 aW aC ag aT aN aF fw y510 H.size k520 H_fw_W) (cwV 2 hts gX11_looks_X11_ofMan rfl rfl rfl ⟨rfl, hdX11_ofMan⟩ ⟨Nat.le_of_ble_eq_true rfl, Nat.le_of_ble_eq_true rfl⟩) ⟨kBlind, va_recv hK hPc (ci := 10) (q0 := 0) rfl rfl, fun U hU hW => ⟨rfl, by rw [hU], hN.warm hW, hE.pass hS hFc hW hU, by rw [hU]; exact hPc, va_K.moved hW.alike hK, hDc⟩⟩ rfl rfl hl.1 rfl (lv_room (Nat.le_of_ble_eq_true rfl)) dX11_looks_18 ⟨Nat.le_of_ble_eq_true rfl, Nat.le_of_ble_eq_true rfl⟩) (fun r523 u H locs hw hP hS => ?_)
    obtain ⟨k524, k525⟩ := hw
    refine lv_if_lt (tgt := 27) hx hb dX11_looks_21 (by decide) (fun c539 => ?_) (fun c539 => ?_)
    · skip
      have k540 : Rg r523 (-1) (-1) := rg_l1 (ltI c539) k525 (rg_lit (n := 0) (by decide)) (by decide)
      refine lv_aload_n hx hb dX11_looks_27 rfl (lv_at hl 1 rfl) ?_
      refine va_get (D := D) (ci := 10) (v := .ref an) (C := RX11) (T := TX11) (N := 26) hx hb hts iG_X11 hown hK hP 0 rfl rfl 17 (by decide) (hts _ w5_12) (fun _ h9 => h9) rfl dX11_looks_28 ?_
      refine lv_aload_n hx hb dX11_looks_31 rfl (lv_at hl 1 rfl) ?_
      refine va_get (D := D) (ci := 10) (v := .int y511) (C := RX11) (T := TX11) (N := 26) hx hb hts iG_X11 hown hK hP 0 rfl rfl 19 (by decide) (hts _ w40_7) (fun _ h9 => h9) rfl dX11_looks_32 ?_
      refine lv_iload_n hx hb dX11_looks_35 rfl (lv_at hl 0 rfl) ?_
      refine va_iast hx hb hK hP hD hS 3 0 rfl rfl (rg_in k522 (by decide)) dX11_looks_36 (fun H locs hP hD hS => ?_)
      have hP : va_P D vwCl [(h, oX11 th aw ai ab ac hi re aP ta po en be de fa a5 sp av an ak y511 aW aC ag aT aN aF), (aw, .inl (cI, 2179, .inl fw)), (av, .inl (cI, 400, .inl g512)), (an, .inl (cI, 10, .inl (upd g513 y511.toNatClampNeg y510))), (ak, .inl (cI, 10, .inl g514))] H := hP
      have hD : va_D A [(h, oX11 th aw ai ab ac hi re aP ta po en be de fa a5 sp av an ak y511 aW aC ag aT aN aF), (aw, .inl (cI, 2179, .inl fw)), (av, .inl (cI, 400, .inl g512)), (an, .inl (cI, 10, .inl (upd g513 y511.toNatClampNeg y510))), (ak, .inl (cI, 10, .inl g514))] := hD
      have k542 : wN (upd g513 y511.toNatClampNeg y510) := wN_upd hg513_0 k520
      generalize hg541 : (upd g513 y511.toNatClampNeg y510) = g541 at hP hD k542
      refine lv_aload_n hx hb dX11_looks_37 rfl (lv_at hl 1 rfl) ?_
      refine va_get (D := D) (ci := 10) (v := .ref ak) (C := RX11) (T := TX11) (N := 26) hx hb hts iG_X11 hown hK hP 0 rfl rfl 18 (by decide) (hts _ w5_13) (fun _ h9 => h9) rfl dX11_looks_38 ?_
      refine lv_aload_n hx hb dX11_looks_41 rfl (lv_at hl 1 rfl) ?_
      refine va_get (D := D) (ci := 10) (v := .int y511) (C := RX11) (T := TX11) (N := 26) hx hb hts iG_X11 hown hK hP 0 rfl rfl 19 (by decide) (hts _ w40_7) (fun _ h9 => h9) rfl dX11_looks_42 ?_
      refine lv_aload_n hx hb dX11_looks_45 rfl (lv_at hl 1 rfl) ?_
      refine lv_iload_n hx hb dX11_looks_46 rfl (lv_at hl 0 rfl) ?_
      refine kcalli (wc := [(h, oX11 th aw ai ab ac hi re aP ta po en be de fa a5 sp av an ak y511 aW aC ag aT aN aF), (aw, .inl (cI, 2179, .inl fw)), (av, .inl (cI, 400, .inl g512))]) (wr := [(an, .inl (cI, 10, .inl g541)), (ak, .inl (cI, 10, .inl g514))]) hP hD hS hA [0, 1, 2] [3, 4] rfl rfl (by decide) (by decide) (by decide) (fun hPc hDc hFc => va_runV (As := [.int y510]) (rest := [.int y511, .ref ak]) ⟨hx, hb, hml, hown, hts⟩ (r_givablex l D cI cJ cB cC h th aw ai ab ac hi re aP ta po en be de fa a5 sp av an ak y511 aW aC ag aT aN aF fw g512 y510 H.size k520 H_fw_W H_fw_L) (cwV 1 hts gX11_looks_X11_givable rfl rfl rfl ⟨rfl, hdX11_givable⟩ ⟨Nat.le_of_ble_eq_true rfl, Nat.le_of_ble_eq_true rfl⟩) ⟨kBlind, va_recv hK hPc (ci := 10) (q0 := 0) rfl rfl, fun U hU hW => ⟨rfl, by rw [hU], hN.warm hW, hE.pass hS hFc hW hU, by rw [hU]; exact hPc, va_K.moved hW.alike hK, hDc⟩⟩ rfl rfl hl.1 rfl (lv_room (Nat.le_of_ble_eq_true rfl)) dX11_looks_47 ⟨Nat.le_of_ble_eq_true rfl, Nat.le_of_ble_eq_true rfl⟩) (fun r543 u H locs hw hP hD hS => ?_)
      obtain ⟨g544, rfl⟩ : ∃ z, z = u := ⟨_, rfl⟩
      have hP : va_P D vwCl [(an, .inl (cI, 10, .inl g541)), (ak, .inl (cI, 10, .inl g514)), (h, oX11 th aw ai ab ac hi re aP ta po en be de fa a5 sp av an ak y511 aW aC ag aT aN aF), (aw, .inl (cI, 2179, .inl fw)), (av, .inl (cI, 400, .inl g544))] H := hP
      have hD : va_D A [(an, .inl (cI, 10, .inl g541)), (ak, .inl (cI, 10, .inl g514)), (h, oX11 th aw ai ab ac hi re aP ta po en be de fa a5 sp av an ak y511 aW aC ag aT aN aF), (aw, .inl (cI, 2179, .inl fw)), (av, .inl (cI, 400, .inl g544))] := hD
      obtain ⟨k545, k546⟩ := hw
      refine va_iast hx hb hK hP hD hS 1 0 rfl rfl (rg_in k522 (by decide)) dX11_looks_50 (fun H locs hP hD hS => ?_)
      have hP : va_P D vwCl [(an, .inl (cI, 10, .inl g541)), (ak, .inl (cI, 10, .inl (upd g514 y511.toNatClampNeg r543))), (h, oX11 th aw ai ab ac hi re aP ta po en be de fa a5 sp av an ak y511 aW aC ag aT aN aF), (aw, .inl (cI, 2179, .inl fw)), (av, .inl (cI, 400, .inl g544))] H := hP
      have hD : va_D A [(an, .inl (cI, 10, .inl g541)), (ak, .inl (cI, 10, .inl (upd g514 y511.toNatClampNeg r543))), (h, oX11 th aw ai ab ac hi re aP ta po en be de fa a5 sp av an ak y511 aW aC ag aT aN aF), (aw, .inl (cI, 2179, .inl fw)), (av, .inl (cI, 400, .inl g544))] := hD
      have k548 : wK (upd g514 y511.toNatClampNeg r543) := wK_upd hg514_0 k546
      generalize hg547 : (upd g514 y511.toNatClampNeg r543) = g547 at hP hD k548
      refine lv_aload_n hx hb dX11_looks_51 rfl (lv_at hl 1 rfl) ?_
      refine lv_dup hx hb dX11_looks_52 rfl ?_
      refine va_get (D := D) (ci := 10) (v := .int y511) (C := RX11) (T := TX11) (N := 26) hx hb hts iG_X11 hown hK hP 2 rfl rfl 19 (by decide) (hts _ w40_7) (fun _ h9 => h9) rfl dX11_looks_53 ?_
      refine lv_iconst (v := 1) hx hb dX11_looks_56 (by decide) ?_
      refine lv_iadd hx hb dX11_looks_57 ?_
      refine lv_topi (fun x549 ex549 => ?_)
      have tx549 : x549.toInt = y511.toInt + 1 := ti_add ex549 k522 (rg_lit (n := 1) (by decide)) (by decide) rfl (by decide)
      have k550 : Rg x549 1 10 := rg_add ex549 k522 (rg_lit (n := 1) (by decide)) (by decide)
      refine va_put (D := D) (ci := 10) (v := .int x549) (ty := .int) (C := RX11) (T := TX11) (N := 26) hx hb hts iG_X11 tyX11 tyX11_ok nmX11 hown hK hP hD hS 2 rfl rfl 19 (by decide) (hts _ w40_7) (fun _ h9 => h9) rfl (by decide +kernel) rfl rfl (Nat.le_of_ble_eq_true rfl) dX11_looks_58 (fun H locs hP hD hS => ?_)
      have hP : va_P D vwCl [(an, .inl (cI, 10, .inl g541)), (ak, .inl (cI, 10, .inl g547)), (h, oX11 th aw ai ab ac hi re aP ta po en be de fa a5 sp av an ak x549 aW aC ag aT aN aF), (aw, .inl (cI, 2179, .inl fw)), (av, .inl (cI, 400, .inl g544))] H := hP
      have hD : va_D A [(an, .inl (cI, 10, .inl g541)), (ak, .inl (cI, 10, .inl g547)), (h, oX11 th aw ai ab ac hi re aP ta po en be de fa a5 sp av an ak x549 aW aC ag aT aN aF), (aw, .inl (cI, 2179, .inl fw)), (av, .inl (cI, 400, .inl g544))] := hD
      obtain ⟨x551, ex551⟩ : ∃ y : Int32, y = y510 + 1 := ⟨_, rfl⟩
      refine lv_iinc (v := x551) (lv' := [(1, .int x551), (0, .ref h)]) hx hb dX11_looks_61 hl (k := 0) rfl (by rw [ex551]; rfl) (by decide) rfl (fun ls hl => ?_)
      have k552 : Rg x551 1 10 := rg_add ex551 k520 (rg_lit (n := 1) (by decide)) (by decide)
      refine lv_goto (tgt := 7) hx hb dX11_looks_64 (by decide) ?_
      exact ih515 (x551, x549, g544, g541, g547) _ _ _ (by show (10 - (x551).toInt).toNat < (10 - (y510).toInt).toNat; exact mu_up ex551 k520 k552 (by decide)) ⟨(by have q1 := hX7_0; have q2 := (ti_add (Y := 1) ex551 k520 (rg_lit (n := 1) (by decide)) (by decide) rfl (by decide)); have q3 := tx549; exact ⟨by omega, by omega⟩), (lk_take hX7_1 k520 (ti_add (Y := 1) ex551 k520 (rg_lit (n := 1) (by decide)) (by decide) rfl (by decide)) (by rw [← k524]; exact (by have q1 := (ltI c539); have q2 : (0 : Int32).toInt = 0 := (by decide); omega)) hg541 hg547 k545 (cl_of (k := cN y511) k522 (by decide) (by simp only [cN]; have q1 := k522; unfold Rg at q1; omega)) (cl_of (k := cN y511) k522 (by decide) (by simp only [cN]; have q1 := k522; unfold Rg at q1; omega)) tx549), (by have q1 := (by have q1 := (nleI c519); rw [k517] at q1; exact q1); have q2 := (ti_add (Y := 1) ex551 k520 (rg_lit (n := 1) (by decide)) (by decide) rfl (by decide)); have q3 := tx549; omega), (rg_w k552 (by decide)), (rg_w k550 (by decide)), k542, k548, hP.sub (ws' := [(h, oX11 th aw ai ab ac hi re aP ta po en be de fa a5 sp av an ak x549 aW aC ag aT aN aF), (aw, .inl (cI, 2179, .inl fw)), (av, .inl (cI, 400, .inl g544)), (an, .inl (cI, 10, .inl g541)), (ak, .inl (cI, 10, .inl g547))]) [2, 3, 4, 0, 1] rfl, hD.sub (ws' := [(h, oX11 th aw ai ab ac hi re aP ta po en be de fa a5 sp av an ak x549 aW aC ag aT aN aF), (aw, .inl (cI, 2179, .inl fw)), (av, .inl (cI, 400, .inl g544)), (an, .inl (cI, 10, .inl g541)), (ak, .inl (cI, 10, .inl g547))]) [2, 3, 4, 0, 1] (by decide) rfl, hS, lv_sub (l' := [(1, .int x551), (0, .ref h)]) hl [0, 1] rfl⟩
    · skip
      have k553 : Rg r523 0 11 := rg_e2 (nltI c539) (rg_lit (n := 0) (by decide)) k525 (by decide)
      refine lv_goto (tgt := 61) hx hb dX11_looks_24 (by decide) ?_
      obtain ⟨x554, ex554⟩ : ∃ y : Int32, y = y510 + 1 := ⟨_, rfl⟩
      refine lv_iinc (v := x554) (lv' := [(1, .int x554), (0, .ref h)]) hx hb dX11_looks_61 hl (k := 0) rfl (by rw [ex554]; rfl) (by decide) rfl (fun ls hl => ?_)
      have k555 : Rg x554 1 10 := rg_add ex554 k520 (rg_lit (n := 1) (by decide)) (by decide)
      refine lv_goto (tgt := 7) hx hb dX11_looks_64 (by decide) ?_
      exact ih515 (x554, y511, g512, g513, g514) _ _ _ (by show (10 - (x554).toInt).toNat < (10 - (y510).toInt).toNat; exact mu_up ex554 k520 k555 (by decide)) ⟨(by have q1 := hX7_0; have q2 := (ti_add (Y := 1) ex554 k520 (rg_lit (n := 1) (by decide)) (by decide) rfl (by decide)); exact ⟨by omega, by omega⟩), (lk_skip hX7_1 k520 (ti_add (Y := 1) ex554 k520 (rg_lit (n := 1) (by decide)) (by decide) rfl (by decide)) (by rw [← k524]; have q1 := (nltI c539); have q3 : (0 : Int32).toInt = 0 := (by decide); omega)), (by have q1 := (by have q1 := (nleI c519); rw [k517] at q1; exact q1); have q2 := (ti_add (Y := 1) ex554 k520 (rg_lit (n := 1) (by decide)) (by decide) rfl (by decide)); omega), (rg_w k555 (by decide)), (rg_w k522 (by decide)), hg513_0, hg514_0, hP.sub (ws' := [(h, oX11 th aw ai ab ac hi re aP ta po en be de fa a5 sp av an ak y511 aW aC ag aT aN aF), (aw, .inl (cI, 2179, .inl fw)), (av, .inl (cI, 400, .inl g512)), (an, .inl (cI, 10, .inl g513)), (ak, .inl (cI, 10, .inl g514))]) [0, 1, 2, 3, 4] rfl, hD.sub (ws' := [(h, oX11 th aw ai ab ac hi re aP ta po en be de fa a5 sp av an ak y511 aW aC ag aT aN aF), (aw, .inl (cI, 2179, .inl fw)), (av, .inl (cI, 400, .inl g512)), (an, .inl (cI, 10, .inl g513)), (ak, .inl (cI, 10, .inl g514))]) [0, 1, 2, 3, 4] (by decide) rfl, hS, lv_sub (l' := [(1, .int x554), (0, .ref h)]) hl [0, 1] rfl⟩

