set_option maxHeartbeats 4000000 in
set_option maxRecDepth 100000 in
/-- reference: isBarred -/
theorem r_isBarredx (l : Launch) (D : va_G) (cI cJ cB cC : ClassId) (h : Nat) (th : Int32) (aw : Nat) (ai : Nat) (ab : Nat) (ac : Nat) (hi : Int32) (re : Int32) (aP : Nat) (ta : Int32) (po : Int32) (en : Int32) (be : Int32) (de : Int32) (fa : Int32) (a5 : Nat) (sp : Int32) (av : Nat) (an : Nat) (ak : Nat) (ne : Int32) (aW : Nat) (aC : Nat) (ag : Nat) (aT : Nat) (aN : Nat) (aF : Nat) (fw : Nat → Int32) (fv : Nat → Int32) (mm : Int32) (b : Int32) (sz : Nat) (H_mm : Rg mm 0 9) (H_b : Rg b 0 11) (H_fw_W : wW fw) (H_fw_L : wL fw) : Met l yX11_isBarred kwX11_isBarred ({ frames := 5, cells := 0, slots := 0, locals := 120 } : Room) (kPre D (kT cI cJ cB cC) sz [(h, oX11 th aw ai ab ac hi re aP ta po en be de fa a5 sp av an ak ne aW aC ag aT aN aF), (aw, kcI cI 2179 fw), (av, kcI cI 400 fv)] [.ref h, .int mm, .int b]) (va_Qi (fun (r : Int32) (f0_ : (Nat → Int32)) => r = bF fw mm b ∧ Rg r 0 1 ∧ F_r_isBarredx (gT fw) (gT fv) (mm : Int32).toInt (b : Int32).toInt = ((r : Int32).toInt, (gT f0_))) (fun (f0_ : (Nat → Int32)) (t : State) => kB D (kT cI cJ cB cC) (va_A [(h, oX11 th aw ai ab ac hi re aP ta po en be de fa a5 sp av an ak ne aW aC ag aT aN aF), (aw, kcI cI 2179 fw), (av, kcI cI 400 fv)] sz) [(h, oX11 th aw ai ab ac hi re aP ta po en be de fa a5 sp av an ak ne aW aC ag aT aN aF), (aw, kcI cI 2179 fw), (av, kcI cI 400 f0_)] t) (va_A [(h, oX11 th aw ai ab ac hi re aP ta po en be de fa a5 sp av an ak ne aW aC ag aT aN aF), (aw, kcI cI 2179 fw), (av, kcI cI 400 fv)] sz)) 0 0 (va_A [(h, oX11 th aw ai ab ac hi re aP ta po en be de fa a5 sp av an ak ne aW aC ag aT aN aF), (aw, kcI cI 2179 fw), (av, kcI cI 400 fv)] sz) := by
  refine Met.ofW (cc := cX11_isBarred) (maxL := 5) (ret := (some .boolean)) (by decide) rfl ?_
  intro p e s m args below meth c s₁ B hml hv
  obtain ⟨rfl, hsz, hN, hE, hP, hK, hD0⟩ := hv
  have hx := B.exec
  have hb := B.bytes
  have hr := B.returns
  have hts := fun (w : Cond) (h : w ∈ kG) => atoms_spec (ws := kwX11_isBarred) B.pre w (List.mem_cons_of_mem _ h)
  have hown : s.vm.findClass RX11 = some m.cls := findClass_of_methodNamed B.named
  subst hsz
  have hD := hD0.self (sz := s.heap.size)
  generalize hAe : va_A [(h, oX11 th aw ai ab ac hi re aP ta po en be de fa a5 sp av an ak ne aW aC ag aT aN aF), (aw, kcI cI 2179 fw), (av, kcI cI 400 fv)] s.heap.size = A at hD hE ⊢
  have hA : ∀ q : Nat, s.heap.size ≤ q → A q := fun q h => by rw [← hAe]; exact Or.inr h
  have hl := lv_entry ([.ref h, .int mm, .int b]) (n := 5) (Nat.le_of_ble_eq_true rfl)
  rw [lg_entry_eq]
  generalize (lg_sl ([.ref h, .int mm, .int b]) ++ List.replicate (5 - (lg_sl ([.ref h, .int mm, .int b])).length) Slot.unset).toArray = ls at hl ⊢
  have hl : lv_has ls 5 [(0, .ref h), (1, .int mm), (2, .int b)] := hl
  obtain ⟨H, hH0⟩ : ∃ H, H = s.heap := ⟨_, rfl⟩
  have hS : va_S A s.heap H [] := by rw [hH0]; exact va_S.rf
  have hP : va_P D vwCl [(h, oX11 th aw ai ab ac hi re aP ta po en be de fa a5 sp av an ak ne aW aC ag aT aN aF), (aw, kcI cI 2179 fw), (av, kcI cI 400 fv)] H := by rw [hH0]; exact hP
  refine kHeap hH0 ?_
  clear hH0
  refine lv_aload_n hx hb dX11_isBarred_0 rfl (lv_at hl 0 rfl) ?_
  refine va_get (D := D) (ci := 10) (v := .ref aw) (C := RX11) (T := TX11) (N := 26) hx hb hts iG_X11 hown hK hP 0 rfl rfl 1 (by decide) (hts _ w5_3) (fun _ h9 => h9) rfl dX11_isBarred_1 ?_
  refine lv_iconst (v := 3) hx hb dX11_isBarred_4 (by decide) ?_
  refine va_iald hx hb hK hP 1 0 rfl rfl (rg_in (rg_lit (n := 3) (by decide)) (by decide)) dX11_isBarred_5 ?_
  refine lv_topi (fun x1 ex1 => ?_)
  refine lv_if_ne (tgt := 16) hx hb dX11_isBarred_6 (by decide) (fun c2 => ?_) (fun c2 => ?_)
  · skip
    refine lv_iconst (v := 0) hx hb dX11_isBarred_16 (by decide) ?_
    refine lv_istore_n (lv' := [(3, .int 0), (0, .ref h), (1, .int mm), (2, .int b)]) hx hb dX11_isBarred_17 rfl hl (by decide) rfl (fun ls hl => ?_)
    refine lv_iconst (v := 0) hx hb dX11_isBarred_18 (by decide) ?_
    refine lv_istore (lv' := [(4, .int 0), (3, .int 0), (0, .ref h), (1, .int mm), (2, .int b)]) hx hb dX11_isBarred_19 hl (by decide) rfl (fun ls hl => ?_)
    refine k_loop (hd := 21) (fun (u : Int32 × Int32 × (Nat → Int32)) => match u with | (y516, y517, g518) => (12 - (y516).toInt).toNat) (fun (u : Int32 × Int32 × (Nat → Int32)) (H : Heap) (locs : List Loc) (ls : Array Slot) => match u with | (y516, y517, g518) => (((y517 : Int32) = 0 ∧ bRun fw mm b (cN (fw 505) - cN y516) (cN y516) = bRun fw mm b (cN (fw 505)) 0) ∨ ((y517 : Int32) = 1 ∧ bRun fw mm b (cN (fw 505)) 0 = 1)) ∧ (F_r_isBarredx (gT fw) (gT fv) mm.toInt b.toInt = F_r_isBarredx_l1 (gT fw) mm.toInt b.toInt (y516.toInt, y517.toInt, (gT g518))) ∧ Rg y516 0 12 ∧ Rg y517 0 1 ∧ va_P D vwCl [(h, oX11 th aw ai ab ac hi re aP ta po en be de fa a5 sp av an ak ne aW aC ag aT aN aF), (aw, kcI cI 2179 fw), (av, kcI cI 400 g518)] H ∧ va_D A [(h, oX11 th aw ai ab ac hi re aP ta po en be de fa a5 sp av an ak ne aW aC ag aT aN aF), (aw, kcI cI 2179 fw), (av, kcI cI 400 g518)] ∧ va_S A s.heap H locs ∧ lv_has ls 5 [(4, .int y516), (3, .int y517), (0, .ref h), (1, .int mm), (2, .int b)]) ((0 : Int32), (0 : Int32), fv) ⟨(Or.inl ⟨rfl, by have q0 : cN (0 : Int32) = 0 := (by decide); rw [q0, Nat.sub_zero]⟩), (kLet_eq (ke_ld ex1) (kif_f (neI c2) rfl)), (rg_w (rg_lit (n := 0) (by decide)) (by decide)), (rg_w (rg_lit (n := 0) (by decide)) (by decide)), hP.sub (ws' := [(h, oX11 th aw ai ab ac hi re aP ta po en be de fa a5 sp av an ak ne aW aC ag aT aN aF), (aw, kcI cI 2179 fw), (av, kcI cI 400 fv)]) [0, 1, 2] rfl, hD.sub (ws' := [(h, oX11 th aw ai ab ac hi re aP ta po en be de fa a5 sp av an ak ne aW aC ag aT aN aF), (aw, kcI cI 2179 fw), (av, kcI cI 400 fv)]) [0, 1, 2] (by decide) rfl, hS, lv_sub (l' := [(4, .int 0), (3, .int 0), (0, .ref h), (1, .int mm), (2, .int b)]) hl [0, 1, 2, 3, 4] rfl⟩ (fun u H locs ls hI ih519 => ?_)
    clear hP hD hS hl
    obtain ⟨y516, y517, g518⟩ := u
    obtain ⟨hX21_0, hF1, hy516, hy517, hP, hD, hS, hl⟩ := hI
    have hP : va_P D vwCl [(h, oX11 th aw ai ab ac hi re aP ta po en be de fa a5 sp av an ak ne aW aC ag aT aN aF), (aw, kcI cI 2179 fw), (av, kcI cI 400 g518)] H := hP
    have hD : va_D A [(h, oX11 th aw ai ab ac hi re aP ta po en be de fa a5 sp av an ak ne aW aC ag aT aN aF), (aw, kcI cI 2179 fw), (av, kcI cI 400 g518)] := hD
    have hl : lv_has ls 5 [(4, .int y516), (3, .int y517), (0, .ref h), (1, .int mm), (2, .int b)] := hl
    refine lv_iload hx hb dX11_isBarred_21 (lv_at hl 0 rfl) ?_
    refine lv_aload_n hx hb dX11_isBarred_23 rfl (lv_at hl 2 rfl) ?_
    refine va_get (D := D) (ci := 10) (v := .ref aw) (C := RX11) (T := TX11) (N := 26) hx hb hts iG_X11 hown hK hP 0 rfl rfl 1 (by decide) (hts _ w5_3) (fun _ h9 => h9) rfl dX11_isBarred_24 ?_
    refine lv_sipush (v := 505) hx hb dX11_isBarred_27 (by decide) ?_
    refine va_iald hx hb hK hP 1 0 rfl rfl (rg_in (rg_lit (n := 505) (by decide)) (by decide)) dX11_isBarred_30 ?_
    refine lv_topi (fun x520 ex520 => ?_)
    have k521 : Rg x520 0 12 := wL_505 H_fw_L ex520
    refine lv_icmp_ge (tgt := 77) hx hb dX11_isBarred_31 (by decide) (fun c550 => ?_) (fun c550 => ?_)
    · skip
      refine lv_iload_n hx hb dX11_isBarred_77 rfl (lv_at hl 1 rfl) ?_
      have hP9 := hP.sub (ws' := [(h, oX11 th aw ai ab ac hi re aP ta po en be de fa a5 sp av an ak ne aW aC ag aT aN aF), (aw, kcI cI 2179 fw), (av, kcI cI 400 g518)]) [0, 1, 2] rfl
      have hD9 := hD.sub (ws' := [(h, oX11 th aw ai ab ac hi re aP ta po en be de fa a5 sp av an ak ne aW aC ag aT aN aF), (aw, kcI cI 2179 fw), (av, kcI cI 400 g518)]) [0, 1, 2] (by decide) rfl
      exact W.zret (v := y517) hx hb hr (rg_bool hy517) (fun t ht hW => ⟨⟨y517, (g518), rfl, ⟨(by unfold bF; rw [if_neg (fun q => c2 (Int32.toInt_inj.mp (by rw [ex1]; exact q)))]; exact (hX21_0).elim (fun q => q.1.trans ((bR_end (le_505 ex520 (leI c550))).symm.trans q.2)) (fun q => q.1.trans q.2.symm)), hy517, (hF1.trans (kIter_out (kC_eq rfl (kC_eq rfl (kLet_eq (ke_ld ex520) (kif_t (leI c550) rfl))))))⟩, by rw [ht]; exact hP9, va_K.moved hW.alike hK, hD9⟩, hS.F ht⟩) hS.2.2 dX11_isBarred_78
    · skip
      have k551 : Rg y516 0 11 := rg_l1 (nleI c550) hy516 k521 (by decide)
      have k552 : Rg x520 1 12 := rg_l2 (nleI c550) hy516 k521 (by decide)
      refine lv_iload_n hx hb dX11_isBarred_34 rfl (lv_at hl 1 rfl) ?_
      refine lv_if_ne (tgt := 77) hx hb dX11_isBarred_35 (by decide) (fun c553 => ?_) (fun c553 => ?_)
      · skip
        have k554 : Rg y517 1 1 := rg_n1 (neI c553) hy517 (rg_lit (n := 0) (by decide)) (by decide)
        refine lv_iload_n hx hb dX11_isBarred_77 rfl (lv_at hl 1 rfl) ?_
        have hP9 := hP.sub (ws' := [(h, oX11 th aw ai ab ac hi re aP ta po en be de fa a5 sp av an ak ne aW aC ag aT aN aF), (aw, kcI cI 2179 fw), (av, kcI cI 400 g518)]) [0, 1, 2] rfl
        have hD9 := hD.sub (ws' := [(h, oX11 th aw ai ab ac hi re aP ta po en be de fa a5 sp av an ak ne aW aC ag aT aN aF), (aw, kcI cI 2179 fw), (av, kcI cI 400 g518)]) [0, 1, 2] (by decide) rfl
        exact W.zret (v := y517) hx hb hr (rg_bool (rg_w k554 (by decide))) (fun t ht hW => ⟨⟨y517, (g518), rfl, ⟨(by unfold bF; rw [if_neg (fun q => c2 (Int32.toInt_inj.mp (by rw [ex1]; exact q)))]; exact (hX21_0).elim (fun q => absurd q.1 c553) (fun q => q.1.trans q.2.symm)), (rg_w k554 (by decide)), (hF1.trans (kIter_out (kC_eq rfl (kC_eq rfl (kLet_eq (ke_ld ex520) (kif_f (xF_le c550) (kif_f (neI c553) rfl)))))))⟩, by rw [ht]; exact hP9, va_K.moved hW.alike hK, hD9⟩, hS.F ht⟩) hS.2.2 dX11_isBarred_78
      · skip
        have k555 : Rg y517 0 0 := rg_q1 (eqI c553) hy517 (rg_lit (n := 0) (by decide)) (by decide)
        refine lv_aload_n hx hb dX11_isBarred_38 rfl (lv_at hl 2 rfl) ?_
        refine va_get (D := D) (ci := 10) (v := .ref aw) (C := RX11) (T := TX11) (N := 26) hx hb hts iG_X11 hown hK hP 0 rfl rfl 1 (by decide) (hts _ w5_3) (fun _ h9 => h9) rfl dX11_isBarred_39 ?_
        refine lv_sipush (v := 506) hx hb dX11_isBarred_42 (by decide) ?_
        refine lv_iconst (v := 3) hx hb dX11_isBarred_45 (by decide) ?_
        refine lv_iload hx hb dX11_isBarred_46 (lv_at hl 0 rfl) ?_
        refine lv_imul hx hb dX11_isBarred_48 ?_
        refine lv_topi (fun x556 ex556 => ?_)
        have tx556 : x556.toInt = 3 * y516.toInt := ti_mul ex556 (rg_lit (n := 3) (by decide)) k551 (by decide) (by decide) rfl
        have k557 : Rg x556 0 33 := rg_mul ex556 (rg_lit (n := 3) (by decide)) k551 (by decide)
        refine lv_iadd hx hb dX11_isBarred_49 ?_
        refine lv_topi (fun x558 ex558 => ?_)
        have tx558 : x558.toInt = 506 + x556.toInt := ti_add ex558 (rg_lit (n := 506) (by decide)) k557 (by decide) (by decide) rfl
        have k559 : Rg x558 506 539 := rg_add ex558 (rg_lit (n := 506) (by decide)) k557 (by decide)
        refine va_iald hx hb hK hP 1 0 rfl rfl (rg_in k559 (by decide)) dX11_isBarred_50 ?_
        refine lv_topi (fun x560 ex560 => ?_)
        have hpx560 : x560 = fw (506 + 3 * cN y516) := by rw [ex560, cl_of (k := 506 + 3 * cN y516) k559 (by decide) (by simp only [cN]; have q2 := neI c2; have q3 := neI (Ne.symm c2); have q6 := (nleI c550); have q7 := (eqI c553); have q8 := tx556; have q9 := tx558; have q11 := k551; have q12 : (0 : Int32).toInt = 0 := (by decide); have q13 : (1 : Int32).toInt = 1 := (by decide); unfold Rg at *; omega)]
        refine lv_if_ge (tgt := 69) hx hb dX11_isBarred_51 (by decide) (fun c572 => ?_) (fun c572 => ?_)
        · skip
          have k573 : Rg x560 0 2147483647 := rg_e2 (leI c572) (rg_lit (n := 0) (by decide)) (rg_any x560) (by decide)
          refine lv_iconst (v := 0) hx hb dX11_isBarred_69 (by decide) ?_
          refine lv_istore_n (lv' := [(3, .int 0), (4, .int y516), (0, .ref h), (1, .int mm), (2, .int b)]) hx hb dX11_isBarred_70 rfl hl (by decide) rfl (fun ls hl => ?_)
          obtain ⟨x574, ex574⟩ : ∃ y : Int32, y = y516 + 1 := ⟨_, rfl⟩
          refine lv_iinc (v := x574) (lv' := [(4, .int x574), (3, .int 0), (0, .ref h), (1, .int mm), (2, .int b)]) hx hb dX11_isBarred_71 hl (k := 1) rfl (by rw [ex574]; rfl) (by decide) rfl (fun ls hl => ?_)
          have k575 : Rg x574 1 12 := rg_add ex574 k551 (rg_lit (n := 1) (by decide)) (by decide)
          refine lv_goto (tgt := 21) hx hb dX11_isBarred_74 (by decide) ?_
          exact ih519 (x574, (0 : Int32), g518) _ _ _ (by show (12 - (x574).toInt).toNat < (12 - (y516).toInt).toNat; exact mu_up ex574 k551 k575 (by decide)) ⟨(Or.inl ⟨rfl, by rw [← ((hX21_0).resolve_right (fun q => by have q1 := q.1; have q2 := (eqI c553); rw [q1] at q2; exact absurd q2 (by decide))).2, bR_go (lt_505 ex520 (nleI c550)) (by have q1 := k551; unfold Rg at q1; omega) (ti_add (Y := 1) ex574 k551 (rg_lit (n := 1) (by decide)) (by decide) rfl (by decide)), if_neg (fun q => by have q1 := q.1; rw [← hpx560] at q1; have q2 := (leI c572); have q3 : (0 : Int32).toInt = 0 := (by decide); omega)]⟩), (hF1.trans (kIter_go (kC_eq rfl (kC_eq rfl (kLet_eq (ke_ld ex520) (kif_f (xF_le c550) (kif_t (eqI c553) (kLet_eq (ti_mul ex556 (rg_lit (n := 3) (by decide)) k551 (by decide) rfl rfl) (kLet_eq (ti_add ex558 (rg_lit (n := 506) (by decide)) k557 (by decide) rfl rfl) (kLet_eq (ke_ld ex560) (kif_t (leI c572) (kLet_eq (ti_add ex574 k551 (rg_lit (n := 1) (by decide)) (by decide) rfl rfl) rfl)))))))))))), (rg_w k575 (by decide)), (rg_w (rg_lit (n := 0) (by decide)) (by decide)), hP.sub (ws' := [(h, oX11 th aw ai ab ac hi re aP ta po en be de fa a5 sp av an ak ne aW aC ag aT aN aF), (aw, kcI cI 2179 fw), (av, kcI cI 400 g518)]) [0, 1, 2] rfl, hD.sub (ws' := [(h, oX11 th aw ai ab ac hi re aP ta po en be de fa a5 sp av an ak ne aW aC ag aT aN aF), (aw, kcI cI 2179 fw), (av, kcI cI 400 g518)]) [0, 1, 2] (by decide) rfl, hS, lv_sub (l' := [(4, .int x574), (3, .int 0), (0, .ref h), (1, .int mm), (2, .int b)]) hl [0, 1, 2, 3, 4] rfl⟩
        · skip
          have k576 : Rg x560 (-2147483648) (-1) := rg_l1 (nleI c572) (rg_any x560) (rg_lit (n := 0) (by decide)) (by decide)
          refine lv_aload_n hx hb dX11_isBarred_54 rfl (lv_at hl 2 rfl) ?_
          refine lv_iload hx hb dX11_isBarred_55 (lv_at hl 0 rfl) ?_
          refine lv_iload_n hx hb dX11_isBarred_57 rfl (lv_at hl 3 rfl) ?_
          refine lv_iload_n hx hb dX11_isBarred_58 rfl (lv_at hl 4 rfl) ?_
          refine kcalli (wc := [(h, oX11 th aw ai ab ac hi re aP ta po en be de fa a5 sp av an ak ne aW aC ag aT aN aF), (aw, kcI cI 2179 fw), (av, kcI cI 400 g518)]) (wr := []) hP hD hS hA [0, 1, 2] [] rfl rfl (by decide) (by decide) (by decide) (fun hPc hDc hFc => va_runV (As := [.int y516, .int mm, .int b]) (rest := []) ⟨hx, hb, hml, hown, hts⟩ (r_holdsLinex l D cI cJ cB cC h th aw ai ab ac hi re aP ta po en be de fa a5 sp av an ak ne aW aC ag aT aN aF fw g518 y516 mm b H.size H_mm H_b k551 H_fw_W H_fw_L (lt_505 ex520 (nleI c550))) (cwV 3 hts gX11_isBarred_X11_holdsLine rfl rfl rfl ⟨rfl, hdX11_holdsLine⟩ ⟨Nat.le_of_ble_eq_true rfl, Nat.le_of_ble_eq_true rfl⟩) ⟨kBlind, va_recv hK hPc (ci := 10) (q0 := 0) rfl rfl, fun U hU hW => ⟨rfl, by rw [hU], hN.warm hW, hE.pass hS hFc hW hU, by rw [hU]; exact hPc, va_K.moved hW.alike hK, hDc⟩⟩ rfl rfl hl.1 rfl (lv_room (Nat.le_of_ble_eq_true rfl)) dX11_isBarred_59 ⟨Nat.le_of_ble_eq_true rfl, Nat.le_of_ble_eq_true rfl⟩) (fun r577 u H locs hw hP hD hS => ?_)
          obtain ⟨g578, rfl⟩ : ∃ z, z = u := ⟨_, rfl⟩
          have hP : va_P D vwCl [(h, oX11 th aw ai ab ac hi re aP ta po en be de fa a5 sp av an ak ne aW aC ag aT aN aF), (aw, kcI cI 2179 fw), (av, kcI cI 400 g578)] H := hP
          have hD : va_D A [(h, oX11 th aw ai ab ac hi re aP ta po en be de fa a5 sp av an ak ne aW aC ag aT aN aF), (aw, kcI cI 2179 fw), (av, kcI cI 400 g578)] := hD
          obtain ⟨k579, k580, k581⟩ := hw
          refine lv_if_eq (tgt := 69) hx hb dX11_isBarred_62 (by decide) (fun c582 => ?_) (fun c582 => ?_)
          · skip
            have k583 : Rg r577 0 0 := rg_q1 (eqI c582) k580 (rg_lit (n := 0) (by decide)) (by decide)
            refine lv_iconst (v := 0) hx hb dX11_isBarred_69 (by decide) ?_
            refine lv_istore_n (lv' := [(3, .int 0), (4, .int y516), (0, .ref h), (1, .int mm), (2, .int b)]) hx hb dX11_isBarred_70 rfl hl (by decide) rfl (fun ls hl => ?_)
            obtain ⟨x584, ex584⟩ : ∃ y : Int32, y = y516 + 1 := ⟨_, rfl⟩
            refine lv_iinc (v := x584) (lv' := [(4, .int x584), (3, .int 0), (0, .ref h), (1, .int mm), (2, .int b)]) hx hb dX11_isBarred_71 hl (k := 1) rfl (by rw [ex584]; rfl) (by decide) rfl (fun ls hl => ?_)
            have k585 : Rg x584 1 12 := rg_add ex584 k551 (rg_lit (n := 1) (by decide)) (by decide)
            refine lv_goto (tgt := 21) hx hb dX11_isBarred_74 (by decide) ?_
            exact ih519 (x584, (0 : Int32), g578) _ _ _ (by show (12 - (x584).toInt).toNat < (12 - (y516).toInt).toNat; exact mu_up ex584 k551 k585 (by decide)) ⟨(Or.inl ⟨rfl, by rw [← ((hX21_0).resolve_right (fun q => by have q1 := q.1; have q2 := (eqI c553); rw [q1] at q2; exact absurd q2 (by decide))).2, bR_go (lt_505 ex520 (nleI c550)) (by have q1 := k551; unfold Rg at q1; omega) (ti_add (Y := 1) ex584 k551 (rg_lit (n := 1) (by decide)) (by decide) rfl (by decide)), if_neg (fun q => q.2 (by rw [← k579]; exact (Int32.toInt_inj.mp (eqI c582))))]⟩), (hF1.trans (kIter_go (kC_eq rfl (kC_eq rfl (kLet_eq (ke_ld ex520) (kif_f (xF_le c550) (kif_t (eqI c553) (kLet_eq (ti_mul ex556 (rg_lit (n := 3) (by decide)) k551 (by decide) rfl rfl) (kLet_eq (ti_add ex558 (rg_lit (n := 506) (by decide)) k557 (by decide) rfl rfl) (kLet_eq (ke_ld ex560) (kif_f (xF_le c572) (kC_eq k581 (kif_t (eqI c582) (kLet_eq (ti_add ex584 k551 (rg_lit (n := 1) (by decide)) (by decide) rfl rfl) rfl)))))))))))))), (rg_w k585 (by decide)), (rg_w (rg_lit (n := 0) (by decide)) (by decide)), hP.sub (ws' := [(h, oX11 th aw ai ab ac hi re aP ta po en be de fa a5 sp av an ak ne aW aC ag aT aN aF), (aw, kcI cI 2179 fw), (av, kcI cI 400 g578)]) [0, 1, 2] rfl, hD.sub (ws' := [(h, oX11 th aw ai ab ac hi re aP ta po en be de fa a5 sp av an ak ne aW aC ag aT aN aF), (aw, kcI cI 2179 fw), (av, kcI cI 400 g578)]) [0, 1, 2] (by decide) rfl, hS, lv_sub (l' := [(4, .int x584), (3, .int 0), (0, .ref h), (1, .int mm), (2, .int b)]) hl [0, 1, 2, 3, 4] rfl⟩
          · skip
            have k586 : Rg r577 1 1 := rg_n1 (neI c582) k580 (rg_lit (n := 0) (by decide)) (by decide)
            refine lv_iconst (v := 1) hx hb dX11_isBarred_65 (by decide) ?_
            refine lv_goto (tgt := 70) hx hb dX11_isBarred_66 (by decide) ?_
            refine lv_istore_n (lv' := [(3, .int 1), (4, .int y516), (0, .ref h), (1, .int mm), (2, .int b)]) hx hb dX11_isBarred_70 rfl hl (by decide) rfl (fun ls hl => ?_)
            obtain ⟨x587, ex587⟩ : ∃ y : Int32, y = y516 + 1 := ⟨_, rfl⟩
            refine lv_iinc (v := x587) (lv' := [(4, .int x587), (3, .int 1), (0, .ref h), (1, .int mm), (2, .int b)]) hx hb dX11_isBarred_71 hl (k := 1) rfl (by rw [ex587]; rfl) (by decide) rfl (fun ls hl => ?_)
            have k588 : Rg x587 1 12 := rg_add ex587 k551 (rg_lit (n := 1) (by decide)) (by decide)
            refine lv_goto (tgt := 21) hx hb dX11_isBarred_74 (by decide) ?_
            exact ih519 (x587, (1 : Int32), g578) _ _ _ (by show (12 - (x587).toInt).toNat < (12 - (y516).toInt).toNat; exact mu_up ex587 k551 k588 (by decide)) ⟨(Or.inr ⟨rfl, by rw [← ((hX21_0).resolve_right (fun q => by have q1 := q.1; have q2 := (eqI c553); rw [q1] at q2; exact absurd q2 (by decide))).2, bR_go (lt_505 ex520 (nleI c550)) (by have q1 := k551; unfold Rg at q1; omega) (ti_add (Y := 1) ex587 k551 (rg_lit (n := 1) (by decide)) (by decide) rfl (by decide)), if_pos ⟨by rw [← hpx560]; exact (by have q1 := (nleI c572); have q2 : (0 : Int32).toInt = 0 := (by decide); omega), by rw [← k579]; exact c582⟩]⟩), (hF1.trans (kIter_go (kC_eq rfl (kC_eq rfl (kLet_eq (ke_ld ex520) (kif_f (xF_le c550) (kif_t (eqI c553) (kLet_eq (ti_mul ex556 (rg_lit (n := 3) (by decide)) k551 (by decide) rfl rfl) (kLet_eq (ti_add ex558 (rg_lit (n := 506) (by decide)) k557 (by decide) rfl rfl) (kLet_eq (ke_ld ex560) (kif_f (xF_le c572) (kC_eq k581 (kif_f (neI c582) (kLet_eq (ti_add ex587 k551 (rg_lit (n := 1) (by decide)) (by decide) rfl rfl) rfl)))))))))))))), (rg_w k588 (by decide)), (rg_w (rg_lit (n := 1) (by decide)) (by decide)), hP.sub (ws' := [(h, oX11 th aw ai ab ac hi re aP ta po en be de fa a5 sp av an ak ne aW aC ag aT aN aF), (aw, kcI cI 2179 fw), (av, kcI cI 400 g578)]) [0, 1, 2] rfl, hD.sub (ws' := [(h, oX11 th aw ai ab ac hi re aP ta po en be de fa a5 sp av an ak ne aW aC ag aT aN aF), (aw, kcI cI 2179 fw), (av, kcI cI 400 g578)]) [0, 1, 2] (by decide) rfl, hS, lv_sub (l' := [(4, .int x587), (3, .int 1), (0, .ref h), (1, .int mm), (2, .int b)]) hl [0, 1, 2, 3, 4] rfl⟩
  · skip
    have k589 : Rg x1 0 0 := rg_q1 (eqI c2) (rg_any x1) (rg_lit (n := 0) (by decide)) (by decide)
    refine lv_aload_n hx hb dX11_isBarred_9 rfl (lv_at hl 0 rfl) ?_
    refine lv_iload_n hx hb dX11_isBarred_10 rfl (lv_at hl 1 rfl) ?_
    refine lv_iload_n hx hb dX11_isBarred_11 rfl (lv_at hl 2 rfl) ?_
    refine kpurei (wc := [(h, oX11 th aw ai ab ac hi re aP ta po en be de fa a5 sp av an ak ne aW aC ag aT aN aF), (aw, kcI cI 2179 fw)]) hP hD hS hA [0, 1] rfl (by decide) (fun hPc hDc hFc => va_runV (As := [.int mm, .int b]) (rest := []) ⟨hx, hb, hml, hown, hts⟩ (r_isNextToLastx l D cI cJ cB cC h th aw ai ab ac hi re aP ta po en be de fa a5 sp av an ak ne aW aC ag aT aN aF fw mm b H.size H_mm H_b H_fw_W) (cwV 2 hts gX11_isBarred_X11_isNextToLast rfl rfl rfl ⟨rfl, hdX11_isNextToLast⟩ ⟨Nat.le_of_ble_eq_true rfl, Nat.le_of_ble_eq_true rfl⟩) ⟨kBlind, va_recv hK hPc (ci := 10) (q0 := 0) rfl rfl, fun U hU hW => ⟨rfl, by rw [hU], hN.warm hW, hE.pass hS hFc hW hU, by rw [hU]; exact hPc, va_K.moved hW.alike hK, hDc⟩⟩ rfl rfl hl.1 rfl (lv_room (Nat.le_of_ble_eq_true rfl)) dX11_isBarred_12 ⟨Nat.le_of_ble_eq_true rfl, Nat.le_of_ble_eq_true rfl⟩) (fun r590 u H locs hw hP hS => ?_)
    obtain ⟨k591, k592, k593⟩ := hw
    have hP9 := hP.sub (ws' := [(h, oX11 th aw ai ab ac hi re aP ta po en be de fa a5 sp av an ak ne aW aC ag aT aN aF), (aw, kcI cI 2179 fw), (av, kcI cI 400 fv)]) [0, 1, 2] rfl
    have hD9 := hD.sub (ws' := [(h, oX11 th aw ai ab ac hi re aP ta po en be de fa a5 sp av an ak ne aW aC ag aT aN aF), (aw, kcI cI 2179 fw), (av, kcI cI 400 fv)]) [0, 1, 2] (by decide) rfl
    exact W.zret (v := r590) hx hb hr (rg_bool k592) (fun t ht hW => ⟨⟨r590, (fv), rfl, ⟨(by unfold bF; rw [if_pos (by have q1 := (eqI c2); have q2 : (0 : Int32).toInt = 0 := (by decide); rw [q2, ex1] at q1; exact q1)]; exact k591), k592, (kLet_eq (ke_ld ex1) (kif_t (eqI c2) (kLet_eq (k593).symm rfl)))⟩, by rw [ht]; exact hP9, va_K.moved hW.alike hK, hD9⟩, hS.F ht⟩) hS.2.2 dX11_isBarred_15

set_option maxHeartbeats 4000000 in
set_option maxRecDepth 100000 in
/-- reference: costOf -/
theorem r_costOfx (l : Launch) (D : va_G) (cI cJ cB cC : ClassId) (h : Nat) (th : Int32) (aw : Nat) (ai : Nat) (ab : Nat) (ac : Nat) (hi : Int32) (re : Int32) (aP : Nat) (ta : Int32) (po : Int32) (en : Int32) (be : Int32) (de : Int32) (fa : Int32) (a5 : Nat) (sp : Int32) (av : Nat) (an : Nat) (ak : Nat) (ne : Int32) (aW : Nat) (aC : Nat) (ag : Nat) (aT : Nat) (aN : Nat) (aF : Nat) (fw : Nat → Int32) (fv : Nat → Int32) (mm : Int32) (b : Int32) (sz : Nat) (H_mm : Rg mm 0 9) (H_b : Rg b 0 11) (H_fw_W : wW fw) (H_fw_L : wL fw) : Met l yX11_costOf kwX11_costOf ({ frames := 5, cells := 0, slots := 0, locals := 120 } : Room) (kPre D (kT cI cJ cB cC) sz [(h, oX11 th aw ai ab ac hi re aP ta po en be de fa a5 sp av an ak ne aW aC ag aT aN aF), (aw, kcI cI 2179 fw), (av, kcI cI 400 fv)] [.ref h, .int mm, .int b]) (va_Qi (fun (r : Int32) (f0_ : (Nat → Int32)) => r = cF fw mm b ∧ Rg r 0 11988 ∧ F_r_costOfx (gT fw) (gT fv) (mm : Int32).toInt (b : Int32).toInt = ((r : Int32).toInt, (gT f0_))) (fun (f0_ : (Nat → Int32)) (t : State) => kB D (kT cI cJ cB cC) (va_A [(h, oX11 th aw ai ab ac hi re aP ta po en be de fa a5 sp av an ak ne aW aC ag aT aN aF), (aw, kcI cI 2179 fw), (av, kcI cI 400 fv)] sz) [(h, oX11 th aw ai ab ac hi re aP ta po en be de fa a5 sp av an ak ne aW aC ag aT aN aF), (aw, kcI cI 2179 fw), (av, kcI cI 400 f0_)] t) (va_A [(h, oX11 th aw ai ab ac hi re aP ta po en be de fa a5 sp av an ak ne aW aC ag aT aN aF), (aw, kcI cI 2179 fw), (av, kcI cI 400 fv)] sz)) 0 0 (va_A [(h, oX11 th aw ai ab ac hi re aP ta po en be de fa a5 sp av an ak ne aW aC ag aT aN aF), (aw, kcI cI 2179 fw), (av, kcI cI 400 fv)] sz) := by
  refine Met.ofW (cc := cX11_costOf) (maxL := 5) (ret := (some .int)) (by decide) rfl ?_
  intro p e s m args below meth c s₁ B hml hv
  obtain ⟨rfl, hsz, hN, hE, hP, hK, hD0⟩ := hv
  have hx := B.exec
  have hb := B.bytes
  have hr := B.returns
  have hts := fun (w : Cond) (h : w ∈ kG) => atoms_spec (ws := kwX11_costOf) B.pre w (List.mem_cons_of_mem _ h)
  have hown : s.vm.findClass RX11 = some m.cls := findClass_of_methodNamed B.named
  subst hsz
  have hD := hD0.self (sz := s.heap.size)
  generalize hAe : va_A [(h, oX11 th aw ai ab ac hi re aP ta po en be de fa a5 sp av an ak ne aW aC ag aT aN aF), (aw, kcI cI 2179 fw), (av, kcI cI 400 fv)] s.heap.size = A at hD hE ⊢
  have hA : ∀ q : Nat, s.heap.size ≤ q → A q := fun q h => by rw [← hAe]; exact Or.inr h
  have hl := lv_entry ([.ref h, .int mm, .int b]) (n := 5) (Nat.le_of_ble_eq_true rfl)
  rw [lg_entry_eq]
  generalize (lg_sl ([.ref h, .int mm, .int b]) ++ List.replicate (5 - (lg_sl ([.ref h, .int mm, .int b])).length) Slot.unset).toArray = ls at hl ⊢
  have hl : lv_has ls 5 [(0, .ref h), (1, .int mm), (2, .int b)] := hl
  obtain ⟨H, hH0⟩ : ∃ H, H = s.heap := ⟨_, rfl⟩
  have hS : va_S A s.heap H [] := by rw [hH0]; exact va_S.rf
  have hP : va_P D vwCl [(h, oX11 th aw ai ab ac hi re aP ta po en be de fa a5 sp av an ak ne aW aC ag aT aN aF), (aw, kcI cI 2179 fw), (av, kcI cI 400 fv)] H := by rw [hH0]; exact hP
  refine kHeap hH0 ?_
  clear hH0
  refine lv_iconst (v := 0) hx hb dX11_costOf_0 (by decide) ?_
  refine lv_istore_n (lv' := [(3, .int 0), (0, .ref h), (1, .int mm), (2, .int b)]) hx hb dX11_costOf_1 rfl hl (by decide) rfl (fun ls hl => ?_)
  refine lv_iconst (v := 0) hx hb dX11_costOf_2 (by decide) ?_
  refine lv_istore (lv' := [(4, .int 0), (3, .int 0), (0, .ref h), (1, .int mm), (2, .int b)]) hx hb dX11_costOf_3 hl (by decide) rfl (fun ls hl => ?_)
  refine k_loop (hd := 5) (fun (u : Int32 × Int32 × (Nat → Int32)) => match u with | (y731, y732, g733) => (12 - (y731).toInt).toNat) (fun (u : Int32 × Int32 × (Nat → Int32)) (H : Heap) (locs : List Loc) (ls : Array Slot) => match u with | (y731, y732, g733) => (cRun fw mm b (cN (fw 505) - cN y731) (cN y731) y732 = cRun fw mm b (cN (fw 505)) 0 0) ∧ ((fw 3).toInt = 1 ∨ (y732 : Int32).toInt = 0) ∧ (0 ≤ (y732 : Int32).toInt ∧ (y732 : Int32).toInt ≤ 999 * (y731 : Int32).toInt) ∧ (F_r_costOfx (gT fw) (gT fv) mm.toInt b.toInt = F_r_costOfx_l1 (gT fw) mm.toInt b.toInt (y731.toInt, y732.toInt, (gT g733))) ∧ Rg y731 0 12 ∧ Rg y732 (-1) 12987 ∧ va_P D vwCl [(h, oX11 th aw ai ab ac hi re aP ta po en be de fa a5 sp av an ak ne aW aC ag aT aN aF), (aw, kcI cI 2179 fw), (av, kcI cI 400 g733)] H ∧ va_D A [(h, oX11 th aw ai ab ac hi re aP ta po en be de fa a5 sp av an ak ne aW aC ag aT aN aF), (aw, kcI cI 2179 fw), (av, kcI cI 400 g733)] ∧ va_S A s.heap H locs ∧ lv_has ls 5 [(4, .int y731), (3, .int y732), (0, .ref h), (1, .int mm), (2, .int b)]) ((0 : Int32), (0 : Int32), fv) ⟨(by have q0 : cN (0 : Int32) = 0 := (by decide); rw [q0, Nat.sub_zero]), (Or.inr (by decide)), ⟨by decide, by decide⟩, rfl, (rg_w (rg_lit (n := 0) (by decide)) (by decide)), (rg_w (rg_lit (n := 0) (by decide)) (by decide)), hP.sub (ws' := [(h, oX11 th aw ai ab ac hi re aP ta po en be de fa a5 sp av an ak ne aW aC ag aT aN aF), (aw, kcI cI 2179 fw), (av, kcI cI 400 fv)]) [0, 1, 2] rfl, hD.sub (ws' := [(h, oX11 th aw ai ab ac hi re aP ta po en be de fa a5 sp av an ak ne aW aC ag aT aN aF), (aw, kcI cI 2179 fw), (av, kcI cI 400 fv)]) [0, 1, 2] (by decide) rfl, hS, lv_sub (l' := [(4, .int 0), (3, .int 0), (0, .ref h), (1, .int mm), (2, .int b)]) hl [0, 1, 2, 3, 4] rfl⟩ (fun u H locs ls hI ih734 => ?_)
  clear hP hD hS hl
  obtain ⟨y731, y732, g733⟩ := u
  obtain ⟨hX5_0, hX5_1, hX5_2, hF1, hy731, hy732, hP, hD, hS, hl⟩ := hI
  have hP : va_P D vwCl [(h, oX11 th aw ai ab ac hi re aP ta po en be de fa a5 sp av an ak ne aW aC ag aT aN aF), (aw, kcI cI 2179 fw), (av, kcI cI 400 g733)] H := hP
  have hD : va_D A [(h, oX11 th aw ai ab ac hi re aP ta po en be de fa a5 sp av an ak ne aW aC ag aT aN aF), (aw, kcI cI 2179 fw), (av, kcI cI 400 g733)] := hD
  have hl : lv_has ls 5 [(4, .int y731), (3, .int y732), (0, .ref h), (1, .int mm), (2, .int b)] := hl
  have k735 : Rg y732 0 11988 := (by have q1 := hX5_2; have q2 := hy731; unfold Rg at q2; exact ⟨by omega, by omega⟩)
  refine lv_aload_n hx hb dX11_costOf_5 rfl (lv_at hl 2 rfl) ?_
  refine va_get (D := D) (ci := 10) (v := .ref aw) (C := RX11) (T := TX11) (N := 26) hx hb hts iG_X11 hown hK hP 0 rfl rfl 1 (by decide) (hts _ w5_3) (fun _ h9 => h9) rfl dX11_costOf_6 ?_
  refine lv_iconst (v := 3) hx hb dX11_costOf_9 (by decide) ?_
  refine va_iald hx hb hK hP 1 0 rfl rfl (rg_in (rg_lit (n := 3) (by decide)) (by decide)) dX11_costOf_10 ?_
  refine lv_topi (fun x736 ex736 => ?_)
  refine lv_iconst (v := 1) hx hb dX11_costOf_11 (by decide) ?_
  refine lv_icmp_ne (tgt := 81) hx hb dX11_costOf_12 (by decide) (fun c779 => ?_) (fun c779 => ?_)
  · skip
    refine lv_iload_n hx hb dX11_costOf_81 rfl (lv_at hl 1 rfl) ?_
    have hP9 := hP.sub (ws' := [(h, oX11 th aw ai ab ac hi re aP ta po en be de fa a5 sp av an ak ne aW aC ag aT aN aF), (aw, kcI cI 2179 fw), (av, kcI cI 400 g733)]) [0, 1, 2] rfl
    have hD9 := hD.sub (ws' := [(h, oX11 th aw ai ab ac hi re aP ta po en be de fa a5 sp av an ak ne aW aC ag aT aN aF), (aw, kcI cI 2179 fw), (av, kcI cI 400 g733)]) [0, 1, 2] (by decide) rfl
    exact W.iret (v := y732) hx hb hr (fun t ht hW => ⟨⟨y732, (g733), rfl, ⟨(by unfold cF; rw [if_neg (fun q => c779 (Int32.toInt_inj.mp (by rw [ex736]; exact q)))]; exact Int32.toInt_inj.mp ((hX5_1).resolve_left (fun q => c779 (Int32.toInt_inj.mp (by rw [ex736]; exact q))))), k735, (hF1.trans (kIter_out (kC_eq rfl (kC_eq rfl (kLet_eq (ke_ld ex736) (kif_f (neI c779) rfl))))))⟩, by rw [ht]; exact hP9, va_K.moved hW.alike hK, hD9⟩, hS.F ht⟩) hS.2.2 dX11_costOf_82
  · skip
    have k780 : Rg x736 1 1 := rg_q1 (eqI c779) (rg_any x736) (rg_lit (n := 1) (by decide)) (by decide)
    refine lv_iload hx hb dX11_costOf_15 (lv_at hl 0 rfl) ?_
    refine lv_aload_n hx hb dX11_costOf_17 rfl (lv_at hl 2 rfl) ?_
    refine va_get (D := D) (ci := 10) (v := .ref aw) (C := RX11) (T := TX11) (N := 26) hx hb hts iG_X11 hown hK hP 0 rfl rfl 1 (by decide) (hts _ w5_3) (fun _ h9 => h9) rfl dX11_costOf_18 ?_
    refine lv_sipush (v := 505) hx hb dX11_costOf_21 (by decide) ?_
    refine va_iald hx hb hK hP 1 0 rfl rfl (rg_in (rg_lit (n := 505) (by decide)) (by decide)) dX11_costOf_24 ?_
    refine lv_topi (fun x781 ex781 => ?_)
    have k782 : Rg x781 0 12 := wL_505 H_fw_L ex781
    refine lv_icmp_ge (tgt := 81) hx hb dX11_costOf_25 (by decide) (fun c783 => ?_) (fun c783 => ?_)
    · skip
      refine lv_iload_n hx hb dX11_costOf_81 rfl (lv_at hl 1 rfl) ?_
      have hP9 := hP.sub (ws' := [(h, oX11 th aw ai ab ac hi re aP ta po en be de fa a5 sp av an ak ne aW aC ag aT aN aF), (aw, kcI cI 2179 fw), (av, kcI cI 400 g733)]) [0, 1, 2] rfl
      have hD9 := hD.sub (ws' := [(h, oX11 th aw ai ab ac hi re aP ta po en be de fa a5 sp av an ak ne aW aC ag aT aN aF), (aw, kcI cI 2179 fw), (av, kcI cI 400 g733)]) [0, 1, 2] (by decide) rfl
      exact W.iret (v := y732) hx hb hr (fun t ht hW => ⟨⟨y732, (g733), rfl, ⟨(by unfold cF; rw [if_pos (by have q1 := (eqI c779); have q2 : (1 : Int32).toInt = 1 := (by decide); rw [q2, ex736] at q1; exact q1)]; exact (cR_end (le_505 ex781 (leI c783))).symm.trans hX5_0), k735, (hF1.trans (kIter_out (kC_eq rfl (kC_eq rfl (kLet_eq (ke_ld ex736) (kif_t (eqI c779) (kLet_eq (ke_ld ex781) (kif_t (leI c783) rfl))))))))⟩, by rw [ht]; exact hP9, va_K.moved hW.alike hK, hD9⟩, hS.F ht⟩) hS.2.2 dX11_costOf_82
    · skip
      have k784 : Rg y731 0 11 := rg_l1 (nleI c783) hy731 k782 (by decide)
      have k785 : Rg x781 1 12 := rg_l2 (nleI c783) hy731 k782 (by decide)
      refine lv_iload_n hx hb dX11_costOf_28 rfl (lv_at hl 1 rfl) ?_
      refine lv_aload_n hx hb dX11_costOf_29 rfl (lv_at hl 2 rfl) ?_
      refine va_get (D := D) (ci := 10) (v := .ref aw) (C := RX11) (T := TX11) (N := 26) hx hb hts iG_X11 hown hK hP 0 rfl rfl 1 (by decide) (hts _ w5_3) (fun _ h9 => h9) rfl dX11_costOf_30 ?_
      refine lv_sipush (v := 506) hx hb dX11_costOf_33 (by decide) ?_
      refine lv_iconst (v := 3) hx hb dX11_costOf_36 (by decide) ?_
      refine lv_iload hx hb dX11_costOf_37 (lv_at hl 0 rfl) ?_
      refine lv_imul hx hb dX11_costOf_39 ?_
      refine lv_topi (fun x786 ex786 => ?_)
      have tx786 : x786.toInt = 3 * y731.toInt := ti_mul ex786 (rg_lit (n := 3) (by decide)) k784 (by decide) (by decide) rfl
      have k787 : Rg x786 0 33 := rg_mul ex786 (rg_lit (n := 3) (by decide)) k784 (by decide)
      refine lv_iadd hx hb dX11_costOf_40 ?_
      refine lv_topi (fun x788 ex788 => ?_)
      have tx788 : x788.toInt = 506 + x786.toInt := ti_add ex788 (rg_lit (n := 506) (by decide)) k787 (by decide) (by decide) rfl
      have k789 : Rg x788 506 539 := rg_add ex788 (rg_lit (n := 506) (by decide)) k787 (by decide)
      refine va_iald hx hb hK hP 1 0 rfl rfl (rg_in k789 (by decide)) dX11_costOf_41 ?_
      refine lv_topi (fun x790 ex790 => ?_)
      have hpx790 : x790 = fw (506 + 3 * cN y731) := by rw [ex790, cl_of (k := 506 + 3 * cN y731) k789 (by decide) (by simp only [cN]; have q4 := (eqI c779); have q6 := (nleI c783); have q7 := tx786; have q8 := tx788; have q10 := k784; have q11 : (0 : Int32).toInt = 0 := (by decide); have q12 : (1 : Int32).toInt = 1 := (by decide); unfold Rg at *; omega)]
      have k791 : Rg x790 (-1) 999 := (by rw [hpx790]; exact ((H_fw_L : wL fw).2 (cN y731) (by have q1 := (lt_505 ex781 (nleI c783)); have q2 := k784; unfold Rg at q2; simp only [cN]; omega)).1)
      refine lv_if_lt (tgt := 72) hx hb dX11_costOf_42 (by decide) (fun c809 => ?_) (fun c809 => ?_)
      · skip
        have k810 : Rg x790 (-1) (-1) := rg_l1 (ltI c809) k791 (rg_lit (n := 0) (by decide)) (by decide)
        refine lv_iconst (v := 0) hx hb dX11_costOf_72 (by decide) ?_
        refine lv_iadd hx hb dX11_costOf_73 ?_
        refine lv_topi (fun x811 ex811 => ?_)
        have tx811 : x811.toInt = y732.toInt + 0 := ti_add ex811 k735 (rg_lit (n := 0) (by decide)) (by decide) rfl (by decide)
        have k812 : Rg x811 0 11988 := rg_add ex811 k735 (rg_lit (n := 0) (by decide)) (by decide)
        refine lv_istore_n (lv' := [(3, .int x811), (4, .int y731), (0, .ref h), (1, .int mm), (2, .int b)]) hx hb dX11_costOf_74 rfl hl (by decide) rfl (fun ls hl => ?_)
        obtain ⟨x813, ex813⟩ : ∃ y : Int32, y = y731 + 1 := ⟨_, rfl⟩
        refine lv_iinc (v := x813) (lv' := [(4, .int x813), (3, .int x811), (0, .ref h), (1, .int mm), (2, .int b)]) hx hb dX11_costOf_75 hl (k := 1) rfl (by rw [ex813]; rfl) (by decide) rfl (fun ls hl => ?_)
        have k814 : Rg x813 1 12 := rg_add ex813 k784 (rg_lit (n := 1) (by decide)) (by decide)
        refine lv_goto (tgt := 5) hx hb dX11_costOf_78 (by decide) ?_
        exact ih734 (x813, x811, g733) _ _ _ (by show (12 - (x813).toInt).toNat < (12 - (y731).toInt).toNat; exact mu_up ex813 k784 k814 (by decide)) ⟨((cR_go (lt_505 ex781 (nleI c783)) (by have q1 := k784; unfold Rg at q1; omega) (ti_add (Y := 1) ex813 k784 (rg_lit (n := 1) (by decide)) (by decide) rfl (by decide)) ex811 (by rw [if_neg (fun q => by have q1 := q.1; rw [← hpx790] at q1; have q2 := (ltI c809); have q3 : (0 : Int32).toInt = 0 := (by decide); omega)])).symm.trans hX5_0), (Or.inl (by have q1 := (eqI c779); have q2 : (1 : Int32).toInt = 1 := (by decide); rw [q2, ex736] at q1; exact q1)), (by have q1 := hX5_2; have q2 := tx811; have q3 := (ti_add (Y := 1) ex813 k784 (rg_lit (n := 1) (by decide)) (by decide) rfl (by decide)); have q5 : (0 : Int32).toInt = 0 := (by decide); exact ⟨by omega, by omega⟩), (hF1.trans (kIter_go (kC_eq rfl (kC_eq rfl (kLet_eq (ke_ld ex736) (kif_t (eqI c779) (kLet_eq (ke_ld ex781) (kif_f (xF_le c783) (kLet_eq (ti_mul ex786 (rg_lit (n := 3) (by decide)) k784 (by decide) rfl rfl) (kLet_eq (ti_add ex788 (rg_lit (n := 506) (by decide)) k787 (by decide) rfl rfl) (kLet_eq (ke_ld ex790) (kif_t (ltI c809) (kLet_eq (ti_add ex811 k735 (rg_lit (n := 0) (by decide)) (by decide) rfl rfl) (kLet_eq (ti_add ex813 k784 (rg_lit (n := 1) (by decide)) (by decide) rfl rfl) rfl)))))))))))))), (rg_w k814 (by decide)), (rg_w k812 (by decide)), hP.sub (ws' := [(h, oX11 th aw ai ab ac hi re aP ta po en be de fa a5 sp av an ak ne aW aC ag aT aN aF), (aw, kcI cI 2179 fw), (av, kcI cI 400 g733)]) [0, 1, 2] rfl, hD.sub (ws' := [(h, oX11 th aw ai ab ac hi re aP ta po en be de fa a5 sp av an ak ne aW aC ag aT aN aF), (aw, kcI cI 2179 fw), (av, kcI cI 400 g733)]) [0, 1, 2] (by decide) rfl, hS, lv_sub (l' := [(4, .int x813), (3, .int x811), (0, .ref h), (1, .int mm), (2, .int b)]) hl [0, 1, 2, 3, 4] rfl⟩
      · skip
        have k815 : Rg x790 0 999 := rg_e2 (nltI c809) (rg_lit (n := 0) (by decide)) k791 (by decide)
        refine lv_aload_n hx hb dX11_costOf_45 rfl (lv_at hl 2 rfl) ?_
        refine lv_iload hx hb dX11_costOf_46 (lv_at hl 0 rfl) ?_
        refine lv_iload_n hx hb dX11_costOf_48 rfl (lv_at hl 3 rfl) ?_
        refine lv_iload_n hx hb dX11_costOf_49 rfl (lv_at hl 4 rfl) ?_
        refine kcalli (wc := [(h, oX11 th aw ai ab ac hi re aP ta po en be de fa a5 sp av an ak ne aW aC ag aT aN aF), (aw, kcI cI 2179 fw), (av, kcI cI 400 g733)]) (wr := []) hP hD hS hA [0, 1, 2] [] rfl rfl (by decide) (by decide) (by decide) (fun hPc hDc hFc => va_runV (As := [.int y731, .int mm, .int b]) (rest := [.int y732]) ⟨hx, hb, hml, hown, hts⟩ (r_holdsLinex l D cI cJ cB cC h th aw ai ab ac hi re aP ta po en be de fa a5 sp av an ak ne aW aC ag aT aN aF fw g733 y731 mm b H.size H_mm H_b k784 H_fw_W H_fw_L (lt_505 ex781 (nleI c783))) (cwV 3 hts gX11_costOf_X11_holdsLine rfl rfl rfl ⟨rfl, hdX11_holdsLine⟩ ⟨Nat.le_of_ble_eq_true rfl, Nat.le_of_ble_eq_true rfl⟩) ⟨kBlind, va_recv hK hPc (ci := 10) (q0 := 0) rfl rfl, fun U hU hW => ⟨rfl, by rw [hU], hN.warm hW, hE.pass hS hFc hW hU, by rw [hU]; exact hPc, va_K.moved hW.alike hK, hDc⟩⟩ rfl rfl hl.1 rfl (lv_room (Nat.le_of_ble_eq_true rfl)) dX11_costOf_50 ⟨Nat.le_of_ble_eq_true rfl, Nat.le_of_ble_eq_true rfl⟩) (fun r816 u H locs hw hP hD hS => ?_)
        obtain ⟨g817, rfl⟩ : ∃ z, z = u := ⟨_, rfl⟩
        have hP : va_P D vwCl [(h, oX11 th aw ai ab ac hi re aP ta po en be de fa a5 sp av an ak ne aW aC ag aT aN aF), (aw, kcI cI 2179 fw), (av, kcI cI 400 g817)] H := hP
        have hD : va_D A [(h, oX11 th aw ai ab ac hi re aP ta po en be de fa a5 sp av an ak ne aW aC ag aT aN aF), (aw, kcI cI 2179 fw), (av, kcI cI 400 g817)] := hD
        obtain ⟨k818, k819, k820⟩ := hw
        refine lv_if_eq (tgt := 72) hx hb dX11_costOf_53 (by decide) (fun c821 => ?_) (fun c821 => ?_)
        · skip
          have k822 : Rg r816 0 0 := rg_q1 (eqI c821) k819 (rg_lit (n := 0) (by decide)) (by decide)
          refine lv_iconst (v := 0) hx hb dX11_costOf_72 (by decide) ?_
          refine lv_iadd hx hb dX11_costOf_73 ?_
          refine lv_topi (fun x823 ex823 => ?_)
          have tx823 : x823.toInt = y732.toInt + 0 := ti_add ex823 k735 (rg_lit (n := 0) (by decide)) (by decide) rfl (by decide)
          have k824 : Rg x823 0 11988 := rg_add ex823 k735 (rg_lit (n := 0) (by decide)) (by decide)
          refine lv_istore_n (lv' := [(3, .int x823), (4, .int y731), (0, .ref h), (1, .int mm), (2, .int b)]) hx hb dX11_costOf_74 rfl hl (by decide) rfl (fun ls hl => ?_)
          obtain ⟨x825, ex825⟩ : ∃ y : Int32, y = y731 + 1 := ⟨_, rfl⟩
          refine lv_iinc (v := x825) (lv' := [(4, .int x825), (3, .int x823), (0, .ref h), (1, .int mm), (2, .int b)]) hx hb dX11_costOf_75 hl (k := 1) rfl (by rw [ex825]; rfl) (by decide) rfl (fun ls hl => ?_)
          have k826 : Rg x825 1 12 := rg_add ex825 k784 (rg_lit (n := 1) (by decide)) (by decide)
          refine lv_goto (tgt := 5) hx hb dX11_costOf_78 (by decide) ?_
          exact ih734 (x825, x823, g817) _ _ _ (by show (12 - (x825).toInt).toNat < (12 - (y731).toInt).toNat; exact mu_up ex825 k784 k826 (by decide)) ⟨((cR_go (lt_505 ex781 (nleI c783)) (by have q1 := k784; unfold Rg at q1; omega) (ti_add (Y := 1) ex825 k784 (rg_lit (n := 1) (by decide)) (by decide) rfl (by decide)) ex823 (by rw [if_neg (fun q => q.2 (by rw [← k818]; exact (Int32.toInt_inj.mp (eqI c821))))])).symm.trans hX5_0), (Or.inl (by have q1 := (eqI c779); have q2 : (1 : Int32).toInt = 1 := (by decide); rw [q2, ex736] at q1; exact q1)), (by have q1 := hX5_2; have q2 := tx823; have q3 := (ti_add (Y := 1) ex825 k784 (rg_lit (n := 1) (by decide)) (by decide) rfl (by decide)); have q5 : (0 : Int32).toInt = 0 := (by decide); exact ⟨by omega, by omega⟩), (hF1.trans (kIter_go (kC_eq rfl (kC_eq rfl (kLet_eq (ke_ld ex736) (kif_t (eqI c779) (kLet_eq (ke_ld ex781) (kif_f (xF_le c783) (kLet_eq (ti_mul ex786 (rg_lit (n := 3) (by decide)) k784 (by decide) rfl rfl) (kLet_eq (ti_add ex788 (rg_lit (n := 506) (by decide)) k787 (by decide) rfl rfl) (kLet_eq (ke_ld ex790) (kif_f (xF_lt c809) (kC_eq k820 (kif_t (eqI c821) (kLet_eq (ti_add ex823 k735 (rg_lit (n := 0) (by decide)) (by decide) rfl rfl) (kLet_eq (ti_add ex825 k784 (rg_lit (n := 1) (by decide)) (by decide) rfl rfl) rfl)))))))))))))))), (rg_w k826 (by decide)), (rg_w k824 (by decide)), hP.sub (ws' := [(h, oX11 th aw ai ab ac hi re aP ta po en be de fa a5 sp av an ak ne aW aC ag aT aN aF), (aw, kcI cI 2179 fw), (av, kcI cI 400 g817)]) [0, 1, 2] rfl, hD.sub (ws' := [(h, oX11 th aw ai ab ac hi re aP ta po en be de fa a5 sp av an ak ne aW aC ag aT aN aF), (aw, kcI cI 2179 fw), (av, kcI cI 400 g817)]) [0, 1, 2] (by decide) rfl, hS, lv_sub (l' := [(4, .int x825), (3, .int x823), (0, .ref h), (1, .int mm), (2, .int b)]) hl [0, 1, 2, 3, 4] rfl⟩
        · skip
          have k827 : Rg r816 1 1 := rg_n1 (neI c821) k819 (rg_lit (n := 0) (by decide)) (by decide)
          refine lv_aload_n hx hb dX11_costOf_56 rfl (lv_at hl 2 rfl) ?_
          refine va_get (D := D) (ci := 10) (v := .ref aw) (C := RX11) (T := TX11) (N := 26) hx hb hts iG_X11 hown hK hP 0 rfl rfl 1 (by decide) (hts _ w5_3) (fun _ h9 => h9) rfl dX11_costOf_57 ?_
          refine lv_sipush (v := 506) hx hb dX11_costOf_60 (by decide) ?_
          refine lv_iconst (v := 3) hx hb dX11_costOf_63 (by decide) ?_
          refine lv_iload hx hb dX11_costOf_64 (lv_at hl 0 rfl) ?_
          refine lv_imul hx hb dX11_costOf_66 ?_
          refine lv_topi (fun x828 ex828 => ?_)
          have tx828 : x828.toInt = 3 * y731.toInt := ti_mul ex828 (rg_lit (n := 3) (by decide)) k784 (by decide) (by decide) rfl
          have k829 : Rg x828 0 33 := rg_mul ex828 (rg_lit (n := 3) (by decide)) k784 (by decide)
          refine lv_iadd hx hb dX11_costOf_67 ?_
          refine lv_topi (fun x830 ex830 => ?_)
          have tx830 : x830.toInt = 506 + x828.toInt := ti_add ex830 (rg_lit (n := 506) (by decide)) k829 (by decide) (by decide) rfl
          have k831 : Rg x830 506 539 := rg_add ex830 (rg_lit (n := 506) (by decide)) k829 (by decide)
          refine va_iald hx hb hK hP 1 0 rfl rfl (rg_in k831 (by decide)) dX11_costOf_68 ?_
          refine lv_topi (fun x832 ex832 => ?_)
          have hpx832 : x832 = fw (506 + 3 * cN y731) := by rw [ex832, cl_of (k := 506 + 3 * cN y731) k831 (by decide) (by simp only [cN]; have q4 := (eqI c779); have q6 := (nleI c783); have q7 := tx786; have q8 := tx788; have q10 := (nltI c809); have q11 := (lt_505 ex781 (nleI c783)); have q13 := neI c821; have q14 := neI (Ne.symm c821); have q15 := tx828; have q16 := tx830; have q18 := k784; have q19 : (0 : Int32).toInt = 0 := (by decide); have q20 : (1 : Int32).toInt = 1 := (by decide); unfold Rg at *; omega)]
          have k833 : Rg x832 (-1) 999 := (by rw [hpx832]; exact ((H_fw_L : wL fw).2 (cN y731) (by have q1 := (lt_505 ex781 (nleI c783)); have q2 := k784; unfold Rg at q2; simp only [cN]; omega)).1)
          refine lv_goto (tgt := 73) hx hb dX11_costOf_69 (by decide) ?_
          refine lv_iadd hx hb dX11_costOf_73 ?_
          refine lv_topi (fun x834 ex834 => ?_)
          have tx834 : x834.toInt = y732.toInt + x832.toInt := ti_add ex834 k735 k833 (by decide) rfl rfl
          have k835 : Rg x834 (-1) 12987 := rg_add ex834 k735 k833 (by decide)
          refine lv_istore_n (lv' := [(3, .int x834), (4, .int y731), (0, .ref h), (1, .int mm), (2, .int b)]) hx hb dX11_costOf_74 rfl hl (by decide) rfl (fun ls hl => ?_)
          obtain ⟨x836, ex836⟩ : ∃ y : Int32, y = y731 + 1 := ⟨_, rfl⟩
          refine lv_iinc (v := x836) (lv' := [(4, .int x836), (3, .int x834), (0, .ref h), (1, .int mm), (2, .int b)]) hx hb dX11_costOf_75 hl (k := 1) rfl (by rw [ex836]; rfl) (by decide) rfl (fun ls hl => ?_)
          have k837 : Rg x836 1 12 := rg_add ex836 k784 (rg_lit (n := 1) (by decide)) (by decide)
          refine lv_goto (tgt := 5) hx hb dX11_costOf_78 (by decide) ?_
          exact ih734 (x836, x834, g817) _ _ _ (by show (12 - (x836).toInt).toNat < (12 - (y731).toInt).toNat; exact mu_up ex836 k784 k837 (by decide)) ⟨((cR_go (lt_505 ex781 (nleI c783)) (by have q1 := k784; unfold Rg at q1; omega) (ti_add (Y := 1) ex836 k784 (rg_lit (n := 1) (by decide)) (by decide) rfl (by decide)) ex834 (by rw [if_pos ⟨by rw [← hpx790]; exact (by have q1 := k815; unfold Rg at q1; omega), by rw [← k818]; exact c821⟩]; exact hpx832)).symm.trans hX5_0), (Or.inl (by have q1 := (eqI c779); have q2 : (1 : Int32).toInt = 1 := (by decide); rw [q2, ex736] at q1; exact q1)), (by have q1 := hX5_2; have q2 := tx834; have q3 := (ti_add (Y := 1) ex836 k784 (rg_lit (n := 1) (by decide)) (by decide) rfl (by decide)); have q4 := k815; unfold Rg at q4; have q6 : x832 = x790 := (hpx832.trans hpx790.symm); rw [q6] at q2; have q5 : (0 : Int32).toInt = 0 := (by decide); exact ⟨by omega, by omega⟩), (hF1.trans (kIter_go (kC_eq rfl (kC_eq rfl (kLet_eq (ke_ld ex736) (kif_t (eqI c779) (kLet_eq (ke_ld ex781) (kif_f (xF_le c783) (kLet_eq (ti_mul ex786 (rg_lit (n := 3) (by decide)) k784 (by decide) rfl rfl) (kLet_eq (ti_add ex788 (rg_lit (n := 506) (by decide)) k787 (by decide) rfl rfl) (kLet_eq (ke_ld ex790) (kif_f (xF_lt c809) (kC_eq k820 (kif_f (neI c821) (kLet_eq (ti_mul ex828 (rg_lit (n := 3) (by decide)) k784 (by decide) rfl rfl) (kLet_eq (ti_add ex830 (rg_lit (n := 506) (by decide)) k829 (by decide) rfl rfl) (kLet_eq (ke_ld ex832) (kLet_eq (ti_add ex834 k735 k833 (by decide) rfl rfl) (kLet_eq (ti_add ex836 k784 (rg_lit (n := 1) (by decide)) (by decide) rfl rfl) rfl))))))))))))))))))), (rg_w k837 (by decide)), k835, hP.sub (ws' := [(h, oX11 th aw ai ab ac hi re aP ta po en be de fa a5 sp av an ak ne aW aC ag aT aN aF), (aw, kcI cI 2179 fw), (av, kcI cI 400 g817)]) [0, 1, 2] rfl, hD.sub (ws' := [(h, oX11 th aw ai ab ac hi re aP ta po en be de fa a5 sp av an ak ne aW aC ag aT aN aF), (aw, kcI cI 2179 fw), (av, kcI cI 400 g817)]) [0, 1, 2] (by decide) rfl, hS, lv_sub (l' := [(4, .int x836), (3, .int x834), (0, .ref h), (1, .int mm), (2, .int b)]) hl [0, 1, 2, 3, 4] rfl⟩

set_option maxHeartbeats 4000000 in
set_option maxRecDepth 100000 in
/-- reference: givable -/
theorem r_givablex (l : Launch) (D : va_G) (cI cJ cB cC : ClassId) (h : Nat) (th : Int32) (aw : Nat) (ai : Nat) (ab : Nat) (ac : Nat) (hi : Int32) (re : Int32) (aP : Nat) (ta : Int32) (po : Int32) (en : Int32) (be : Int32) (de : Int32) (fa : Int32) (a5 : Nat) (sp : Int32) (av : Nat) (an : Nat) (ak : Nat) (ne : Int32) (aW : Nat) (aC : Nat) (ag : Nat) (aT : Nat) (aN : Nat) (aF : Nat) (fw : Nat → Int32) (fv : Nat → Int32) (mm : Int32) (sz : Nat) (H_mm : Rg mm 0 9) (H_fw_W : wW fw) (H_fw_L : wL fw) : Met l yX11_givable kwX11_givable ({ frames := 6, cells := 0, slots := 0, locals := 144 } : Room) (kPre D (kT cI cJ cB cC) sz [(h, oX11 th aw ai ab ac hi re aP ta po en be de fa a5 sp av an ak ne aW aC ag aT aN aF), (aw, kcI cI 2179 fw), (av, kcI cI 400 fv)] [.ref h, .int mm]) (va_Qi (fun (r : Int32) (f0_ : (Nat → Int32)) => r = gF fw mm ∧ Rg r 0 4095 ∧ F_r_givablex (gT fw) (gT fv) (mm : Int32).toInt = ((r : Int32).toInt, (gT f0_))) (fun (f0_ : (Nat → Int32)) (t : State) => kB D (kT cI cJ cB cC) (va_A [(h, oX11 th aw ai ab ac hi re aP ta po en be de fa a5 sp av an ak ne aW aC ag aT aN aF), (aw, kcI cI 2179 fw), (av, kcI cI 400 fv)] sz) [(h, oX11 th aw ai ab ac hi re aP ta po en be de fa a5 sp av an ak ne aW aC ag aT aN aF), (aw, kcI cI 2179 fw), (av, kcI cI 400 f0_)] t) (va_A [(h, oX11 th aw ai ab ac hi re aP ta po en be de fa a5 sp av an ak ne aW aC ag aT aN aF), (aw, kcI cI 2179 fw), (av, kcI cI 400 fv)] sz)) 0 0 (va_A [(h, oX11 th aw ai ab ac hi re aP ta po en be de fa a5 sp av an ak ne aW aC ag aT aN aF), (aw, kcI cI 2179 fw), (av, kcI cI 400 fv)] sz) := by
  refine Met.ofW (cc := cX11_givable) (maxL := 4) (ret := (some .int)) (by decide) rfl ?_
  intro p e s m args below meth c s₁ B hml hv
  obtain ⟨rfl, hsz, hN, hE, hP, hK, hD0⟩ := hv
  have hx := B.exec
  have hb := B.bytes
  have hr := B.returns
  have hts := fun (w : Cond) (h : w ∈ kG) => atoms_spec (ws := kwX11_givable) B.pre w (List.mem_cons_of_mem _ h)
  have hown : s.vm.findClass RX11 = some m.cls := findClass_of_methodNamed B.named
  subst hsz
  have hD := hD0.self (sz := s.heap.size)
  generalize hAe : va_A [(h, oX11 th aw ai ab ac hi re aP ta po en be de fa a5 sp av an ak ne aW aC ag aT aN aF), (aw, kcI cI 2179 fw), (av, kcI cI 400 fv)] s.heap.size = A at hD hE ⊢
  have hA : ∀ q : Nat, s.heap.size ≤ q → A q := fun q h => by rw [← hAe]; exact Or.inr h
  have hl := lv_entry ([.ref h, .int mm]) (n := 4) (Nat.le_of_ble_eq_true rfl)
  rw [lg_entry_eq]
  generalize (lg_sl ([.ref h, .int mm]) ++ List.replicate (4 - (lg_sl ([.ref h, .int mm])).length) Slot.unset).toArray = ls at hl ⊢
  have hl : lv_has ls 4 [(0, .ref h), (1, .int mm)] := hl
  obtain ⟨H, hH0⟩ : ∃ H, H = s.heap := ⟨_, rfl⟩
  have hS : va_S A s.heap H [] := by rw [hH0]; exact va_S.rf
  have hP : va_P D vwCl [(h, oX11 th aw ai ab ac hi re aP ta po en be de fa a5 sp av an ak ne aW aC ag aT aN aF), (aw, kcI cI 2179 fw), (av, kcI cI 400 fv)] H := by rw [hH0]; exact hP
  refine kHeap hH0 ?_
  clear hH0
  refine lv_iconst (v := 0) hx hb dX11_givable_0 (by decide) ?_
  refine lv_istore_n (lv' := [(2, .int 0), (0, .ref h), (1, .int mm)]) hx hb dX11_givable_1 rfl hl (by decide) rfl (fun ls hl => ?_)
  refine lv_iconst (v := 0) hx hb dX11_givable_2 (by decide) ?_
  refine lv_istore_n (lv' := [(3, .int 0), (2, .int 0), (0, .ref h), (1, .int mm)]) hx hb dX11_givable_3 rfl hl (by decide) rfl (fun ls hl => ?_)
  refine k_loop (hd := 4) (fun (u : Int32 × Int32 × (Nat → Int32)) => match u with | (y608, y609, g610) => (12 - (y608).toInt).toNat) (fun (u : Int32 × Int32 × (Nat → Int32)) (H : Heap) (locs : List Loc) (ls : Array Slot) => match u with | (y608, y609, g610) => (gRun fw mm (cN (fw 1) - cN y608) (cN y608) y609 = gF fw mm) ∧ (F_r_givablex (gT fw) (gT fv) mm.toInt = F_r_givablex_l1 (gT fw) mm.toInt (y608.toInt, y609.toInt, (gT g610))) ∧ Rg y608 0 12 ∧ Rg y609 0 4095 ∧ va_P D vwCl [(h, oX11 th aw ai ab ac hi re aP ta po en be de fa a5 sp av an ak ne aW aC ag aT aN aF), (aw, kcI cI 2179 fw), (av, kcI cI 400 g610)] H ∧ va_D A [(h, oX11 th aw ai ab ac hi re aP ta po en be de fa a5 sp av an ak ne aW aC ag aT aN aF), (aw, kcI cI 2179 fw), (av, kcI cI 400 g610)] ∧ va_S A s.heap H locs ∧ lv_has ls 4 [(3, .int y608), (2, .int y609), (0, .ref h), (1, .int mm)]) ((0 : Int32), (0 : Int32), fv) ⟨(by have q0 : cN (0 : Int32) = 0 := (by decide); rw [q0, Nat.sub_zero]; rfl), rfl, (rg_w (rg_lit (n := 0) (by decide)) (by decide)), (rg_w (rg_lit (n := 0) (by decide)) (by decide)), hP.sub (ws' := [(h, oX11 th aw ai ab ac hi re aP ta po en be de fa a5 sp av an ak ne aW aC ag aT aN aF), (aw, kcI cI 2179 fw), (av, kcI cI 400 fv)]) [0, 1, 2] rfl, hD.sub (ws' := [(h, oX11 th aw ai ab ac hi re aP ta po en be de fa a5 sp av an ak ne aW aC ag aT aN aF), (aw, kcI cI 2179 fw), (av, kcI cI 400 fv)]) [0, 1, 2] (by decide) rfl, hS, lv_sub (l' := [(3, .int 0), (2, .int 0), (0, .ref h), (1, .int mm)]) hl [0, 1, 2, 3] rfl⟩ (fun u H locs ls hI ih611 => ?_)
  clear hP hD hS hl
  obtain ⟨y608, y609, g610⟩ := u
  obtain ⟨hX4_0, hF1, hy608, hy609, hP, hD, hS, hl⟩ := hI
  have hP : va_P D vwCl [(h, oX11 th aw ai ab ac hi re aP ta po en be de fa a5 sp av an ak ne aW aC ag aT aN aF), (aw, kcI cI 2179 fw), (av, kcI cI 400 g610)] H := hP
  have hD : va_D A [(h, oX11 th aw ai ab ac hi re aP ta po en be de fa a5 sp av an ak ne aW aC ag aT aN aF), (aw, kcI cI 2179 fw), (av, kcI cI 400 g610)] := hD
  have hl : lv_has ls 4 [(3, .int y608), (2, .int y609), (0, .ref h), (1, .int mm)] := hl
  refine lv_iload_n hx hb dX11_givable_4 rfl (lv_at hl 0 rfl) ?_
  refine lv_aload_n hx hb dX11_givable_5 rfl (lv_at hl 2 rfl) ?_
  refine kpurei (wc := [(h, oX11 th aw ai ab ac hi re aP ta po en be de fa a5 sp av an ak ne aW aC ag aT aN aF), (aw, kcI cI 2179 fw)]) hP hD hS hA [0, 1] rfl (by decide) (fun hPc hDc hFc => va_runV (As := []) (rest := [.int y608]) ⟨hx, hb, hml, hown, hts⟩ (r_shirts l D cI cJ cB cC h th aw ai ab ac hi re aP ta po en be de fa a5 sp av an ak ne aW aC ag aT aN aF fw H.size H_fw_W) (cwV 0 hts gX11_givable_X11_shirts rfl rfl rfl ⟨rfl, hdX11_shirts⟩ ⟨Nat.le_of_ble_eq_true rfl, Nat.le_of_ble_eq_true rfl⟩) ⟨kBlind, va_recv hK hPc (ci := 10) (q0 := 0) rfl rfl, fun U hU hW => ⟨rfl, by rw [hU], hN.warm hW, hE.pass hS hFc hW hU, by rw [hU]; exact hPc, va_K.moved hW.alike hK, hDc⟩⟩ rfl rfl hl.1 rfl (lv_room (Nat.le_of_ble_eq_true rfl)) dX11_givable_6 ⟨Nat.le_of_ble_eq_true rfl, Nat.le_of_ble_eq_true rfl⟩) (fun r612 u H locs hw hP hS => ?_)
  obtain ⟨k613, k614, k615⟩ := hw
  refine lv_icmp_ge (tgt := 46) hx hb dX11_givable_9 (by decide) (fun c616 => ?_) (fun c616 => ?_)
  · skip
    refine lv_iload_n hx hb dX11_givable_46 rfl (lv_at hl 1 rfl) ?_
    have hP9 := hP.sub (ws' := [(h, oX11 th aw ai ab ac hi re aP ta po en be de fa a5 sp av an ak ne aW aC ag aT aN aF), (aw, kcI cI 2179 fw), (av, kcI cI 400 g610)]) [0, 1, 2] rfl
    have hD9 := hD.sub (ws' := [(h, oX11 th aw ai ab ac hi re aP ta po en be de fa a5 sp av an ak ne aW aC ag aT aN aF), (aw, kcI cI 2179 fw), (av, kcI cI 400 g610)]) [0, 1, 2] (by decide) rfl
    exact W.iret (v := y609) hx hb hr (fun t ht hW => ⟨⟨y609, (g610), rfl, ⟨((gR_end (by have q1 := (leI c616); rw [k613] at q1; exact q1)).symm.trans hX4_0), hy609, (hF1.trans (kIter_out (kC_eq rfl (kC_eq rfl (kLet_eq (k615).symm (kif_t (leI c616) rfl))))))⟩, by rw [ht]; exact hP9, va_K.moved hW.alike hK, hD9⟩, hS.F ht⟩) hS.2.2 dX11_givable_47
  · skip
    have k617 : Rg y608 0 11 := rg_l1 (nleI c616) hy608 k614 (by decide)
    have k618 : Rg r612 1 12 := rg_l2 (nleI c616) hy608 k614 (by decide)
    refine lv_iload_n hx hb dX11_givable_12 rfl (lv_at hl 1 rfl) ?_
    refine lv_aload_n hx hb dX11_givable_13 rfl (lv_at hl 2 rfl) ?_
    refine lv_iload_n hx hb dX11_givable_14 rfl (lv_at hl 0 rfl) ?_
    refine lv_iconst (v := 5) hx hb dX11_givable_15 (by decide) ?_
    refine kpurei (wc := [(h, oX11 th aw ai ab ac hi re aP ta po en be de fa a5 sp av an ak ne aW aC ag aT aN aF), (aw, kcI cI 2179 fw)]) hP hD hS hA [0, 1] rfl (by decide) (fun hPc hDc hFc => va_runV (As := [.int y608, .int 5]) (rest := [.int y609]) ⟨hx, hb, hml, hown, hts⟩ (r_of5 l D cI cJ cB cC h th aw ai ab ac hi re aP ta po en be de fa a5 sp av an ak ne aW aC ag aT aN aF fw y608 H.size k617 H_fw_W) (cwV 2 hts gX11_givable_X11_of rfl rfl rfl ⟨rfl, hdX11_of⟩ ⟨Nat.le_of_ble_eq_true rfl, Nat.le_of_ble_eq_true rfl⟩) ⟨kBlind, va_recv hK hPc (ci := 10) (q0 := 0) rfl rfl, fun U hU hW => ⟨rfl, by rw [hU], hN.warm hW, hE.pass hS hFc hW hU, by rw [hU]; exact hPc, va_K.moved hW.alike hK, hDc⟩⟩ rfl rfl hl.1 rfl (lv_room (Nat.le_of_ble_eq_true rfl)) dX11_givable_16 ⟨Nat.le_of_ble_eq_true rfl, Nat.le_of_ble_eq_true rfl⟩) (fun r619 u H locs hw hP hS => ?_)
    obtain ⟨k620, k621, k622⟩ := hw
    refine lv_if_ge (tgt := 37) hx hb dX11_givable_19 (by decide) (fun c636 => ?_) (fun c636 => ?_)
    · skip
      have k637 : Rg r619 0 9 := rg_e2 (leI c636) (rg_lit (n := 0) (by decide)) k621 (by decide)
      refine lv_iconst (v := 0) hx hb dX11_givable_37 (by decide) ?_
      refine lv_ior hx hb dX11_givable_38 ?_
      refine lv_topi (fun x638 ex638 => ?_)
      have k639 : Rg x638 0 4095 := rg_or 12 ex638 hy609 (rg_lit (n := 0) (by decide)) (by decide)
      refine lv_istore_n (lv' := [(2, .int x638), (3, .int y608), (0, .ref h), (1, .int mm)]) hx hb dX11_givable_39 rfl hl (by decide) rfl (fun ls hl => ?_)
      obtain ⟨x640, ex640⟩ : ∃ y : Int32, y = y608 + 1 := ⟨_, rfl⟩
      refine lv_iinc (v := x640) (lv' := [(3, .int x640), (2, .int x638), (0, .ref h), (1, .int mm)]) hx hb dX11_givable_40 hl (k := 1) rfl (by rw [ex640]; rfl) (by decide) rfl (fun ls hl => ?_)
      have k641 : Rg x640 1 12 := rg_add ex640 k617 (rg_lit (n := 1) (by decide)) (by decide)
      refine lv_goto (tgt := 4) hx hb dX11_givable_43 (by decide) ?_
      exact ih611 (x640, x638, g610) _ _ _ (by show (12 - (x640).toInt).toNat < (12 - (y608).toInt).toNat; exact mu_up ex640 k617 k641 (by decide)) ⟨((gR_go (by have q1 := (nleI c616); rw [k613] at q1; exact q1) k617 (ti_add (Y := 1) ex640 k617 (rg_lit (n := 1) (by decide)) (by decide) rfl (by decide)) ex638 (by rw [← k620, if_neg (fun q => by have q1 := q.1; have q2 := (leI c636); have q3 : (0 : Int32).toInt = 0 := (by decide); omega)])).symm.trans hX4_0), (hF1.trans (kIter_go (kC_eq rfl (kC_eq rfl (kLet_eq (k615).symm (kif_f (xF_le c616) (kLet_eq (k622).symm (kif_t (leI c636) (kLet_eq (ke_or ex638) (kLet_eq (ti_add ex640 k617 (rg_lit (n := 1) (by decide)) (by decide) rfl rfl) rfl)))))))))), (rg_w k641 (by decide)), k639, hP.sub (ws' := [(h, oX11 th aw ai ab ac hi re aP ta po en be de fa a5 sp av an ak ne aW aC ag aT aN aF), (aw, kcI cI 2179 fw), (av, kcI cI 400 g610)]) [0, 1, 2] rfl, hD.sub (ws' := [(h, oX11 th aw ai ab ac hi re aP ta po en be de fa a5 sp av an ak ne aW aC ag aT aN aF), (aw, kcI cI 2179 fw), (av, kcI cI 400 g610)]) [0, 1, 2] (by decide) rfl, hS, lv_sub (l' := [(3, .int x640), (2, .int x638), (0, .ref h), (1, .int mm)]) hl [0, 1, 2, 3] rfl⟩
    · skip
      have k642 : Rg r619 (-1) (-1) := rg_l1 (nleI c636) k621 (rg_lit (n := 0) (by decide)) (by decide)
      refine lv_aload_n hx hb dX11_givable_22 rfl (lv_at hl 2 rfl) ?_
      refine lv_iload_n hx hb dX11_givable_23 rfl (lv_at hl 3 rfl) ?_
      refine lv_iload_n hx hb dX11_givable_24 rfl (lv_at hl 0 rfl) ?_
      refine kcalli (wc := [(h, oX11 th aw ai ab ac hi re aP ta po en be de fa a5 sp av an ak ne aW aC ag aT aN aF), (aw, kcI cI 2179 fw), (av, kcI cI 400 g610)]) (wr := []) hP hD hS hA [0, 1, 2] [] rfl rfl (by decide) (by decide) (by decide) (fun hPc hDc hFc => va_runV (As := [.int mm, .int y608]) (rest := [.int y609]) ⟨hx, hb, hml, hown, hts⟩ (r_isBarredx l D cI cJ cB cC h th aw ai ab ac hi re aP ta po en be de fa a5 sp av an ak ne aW aC ag aT aN aF fw g610 mm y608 H.size H_mm k617 H_fw_W H_fw_L) (cwV 2 hts gX11_givable_X11_isBarred rfl rfl rfl ⟨rfl, hdX11_isBarred⟩ ⟨Nat.le_of_ble_eq_true rfl, Nat.le_of_ble_eq_true rfl⟩) ⟨kBlind, va_recv hK hPc (ci := 10) (q0 := 0) rfl rfl, fun U hU hW => ⟨rfl, by rw [hU], hN.warm hW, hE.pass hS hFc hW hU, by rw [hU]; exact hPc, va_K.moved hW.alike hK, hDc⟩⟩ rfl rfl hl.1 rfl (lv_room (Nat.le_of_ble_eq_true rfl)) dX11_givable_25 ⟨Nat.le_of_ble_eq_true rfl, Nat.le_of_ble_eq_true rfl⟩) (fun r643 u H locs hw hP hD hS => ?_)
      obtain ⟨g644, rfl⟩ : ∃ z, z = u := ⟨_, rfl⟩
      have hP : va_P D vwCl [(h, oX11 th aw ai ab ac hi re aP ta po en be de fa a5 sp av an ak ne aW aC ag aT aN aF), (aw, kcI cI 2179 fw), (av, kcI cI 400 g644)] H := hP
      have hD : va_D A [(h, oX11 th aw ai ab ac hi re aP ta po en be de fa a5 sp av an ak ne aW aC ag aT aN aF), (aw, kcI cI 2179 fw), (av, kcI cI 400 g644)] := hD
      obtain ⟨k645, k646, k647⟩ := hw
      refine lv_if_ne (tgt := 37) hx hb dX11_givable_28 (by decide) (fun c648 => ?_) (fun c648 => ?_)
      · skip
        have k649 : Rg r643 1 1 := rg_n1 (neI c648) k646 (rg_lit (n := 0) (by decide)) (by decide)
        refine lv_iconst (v := 0) hx hb dX11_givable_37 (by decide) ?_
        refine lv_ior hx hb dX11_givable_38 ?_
        refine lv_topi (fun x650 ex650 => ?_)
        have k651 : Rg x650 0 4095 := rg_or 12 ex650 hy609 (rg_lit (n := 0) (by decide)) (by decide)
        refine lv_istore_n (lv' := [(2, .int x650), (3, .int y608), (0, .ref h), (1, .int mm)]) hx hb dX11_givable_39 rfl hl (by decide) rfl (fun ls hl => ?_)
        obtain ⟨x652, ex652⟩ : ∃ y : Int32, y = y608 + 1 := ⟨_, rfl⟩
        refine lv_iinc (v := x652) (lv' := [(3, .int x652), (2, .int x650), (0, .ref h), (1, .int mm)]) hx hb dX11_givable_40 hl (k := 1) rfl (by rw [ex652]; rfl) (by decide) rfl (fun ls hl => ?_)
        have k653 : Rg x652 1 12 := rg_add ex652 k617 (rg_lit (n := 1) (by decide)) (by decide)
        refine lv_goto (tgt := 4) hx hb dX11_givable_43 (by decide) ?_
        exact ih611 (x652, x650, g644) _ _ _ (by show (12 - (x652).toInt).toNat < (12 - (y608).toInt).toNat; exact mu_up ex652 k617 k653 (by decide)) ⟨((gR_go (by have q1 := (nleI c616); rw [k613] at q1; exact q1) k617 (ti_add (Y := 1) ex652 k617 (rg_lit (n := 1) (by decide)) (by decide) rfl (by decide)) ex650 (by rw [← k620, ← k645, if_neg (fun q => c648 q.2)])).symm.trans hX4_0), (hF1.trans (kIter_go (kC_eq rfl (kC_eq rfl (kLet_eq (k615).symm (kif_f (xF_le c616) (kLet_eq (k622).symm (kif_f (xF_le c636) (kC_eq k647 (kif_f (neI c648) (kLet_eq (ke_or ex650) (kLet_eq (ti_add ex652 k617 (rg_lit (n := 1) (by decide)) (by decide) rfl rfl) rfl)))))))))))), (rg_w k653 (by decide)), k651, hP.sub (ws' := [(h, oX11 th aw ai ab ac hi re aP ta po en be de fa a5 sp av an ak ne aW aC ag aT aN aF), (aw, kcI cI 2179 fw), (av, kcI cI 400 g644)]) [0, 1, 2] rfl, hD.sub (ws' := [(h, oX11 th aw ai ab ac hi re aP ta po en be de fa a5 sp av an ak ne aW aC ag aT aN aF), (aw, kcI cI 2179 fw), (av, kcI cI 400 g644)]) [0, 1, 2] (by decide) rfl, hS, lv_sub (l' := [(3, .int x652), (2, .int x650), (0, .ref h), (1, .int mm)]) hl [0, 1, 2, 3] rfl⟩
      · skip
        have k654 : Rg r643 0 0 := rg_q1 (eqI c648) k646 (rg_lit (n := 0) (by decide)) (by decide)
        refine lv_iconst (v := 1) hx hb dX11_givable_31 (by decide) ?_
        refine lv_iload_n hx hb dX11_givable_32 rfl (lv_at hl 0 rfl) ?_
        refine lv_ishl hx hb dX11_givable_33 ?_
        refine lv_topi (fun x655 ex655 => ?_)
        have k656 : Rg x655 1 2048 := rg_shl1 11 ex655 k617 (by decide)
        refine lv_goto (tgt := 38) hx hb dX11_givable_34 (by decide) ?_
        refine lv_ior hx hb dX11_givable_38 ?_
        refine lv_topi (fun x657 ex657 => ?_)
        have k658 : Rg x657 0 4095 := rg_or 12 ex657 hy609 k656 (by decide)
        refine lv_istore_n (lv' := [(2, .int x657), (3, .int y608), (0, .ref h), (1, .int mm)]) hx hb dX11_givable_39 rfl hl (by decide) rfl (fun ls hl => ?_)
        obtain ⟨x659, ex659⟩ : ∃ y : Int32, y = y608 + 1 := ⟨_, rfl⟩
        refine lv_iinc (v := x659) (lv' := [(3, .int x659), (2, .int x657), (0, .ref h), (1, .int mm)]) hx hb dX11_givable_40 hl (k := 1) rfl (by rw [ex659]; rfl) (by decide) rfl (fun ls hl => ?_)
        have k660 : Rg x659 1 12 := rg_add ex659 k617 (rg_lit (n := 1) (by decide)) (by decide)
        refine lv_goto (tgt := 4) hx hb dX11_givable_43 (by decide) ?_
        exact ih611 (x659, x657, g644) _ _ _ (by show (12 - (x659).toInt).toNat < (12 - (y608).toInt).toNat; exact mu_up ex659 k617 k660 (by decide)) ⟨((gR_go (by have q1 := (nleI c616); rw [k613] at q1; exact q1) k617 (ti_add (Y := 1) ex659 k617 (rg_lit (n := 1) (by decide)) (by decide) rfl (by decide)) ex657 (by rw [← k620, ← k645, if_pos ⟨(by have q1 := (nleI c636); have q2 : (0 : Int32).toInt = 0 := (by decide); omega), (Int32.toInt_inj.mp (eqI c648))⟩]; exact ex655)).symm.trans hX4_0), (hF1.trans (kIter_go (kC_eq rfl (kC_eq rfl (kLet_eq (k615).symm (kif_f (xF_le c616) (kLet_eq (k622).symm (kif_f (xF_le c636) (kC_eq k647 (kif_t (eqI c648) (kLet_eq (ke_shl ex655) (kLet_eq (ke_or ex657) (kLet_eq (ti_add ex659 k617 (rg_lit (n := 1) (by decide)) (by decide) rfl rfl) rfl))))))))))))), (rg_w k660 (by decide)), k658, hP.sub (ws' := [(h, oX11 th aw ai ab ac hi re aP ta po en be de fa a5 sp av an ak ne aW aC ag aT aN aF), (aw, kcI cI 2179 fw), (av, kcI cI 400 g644)]) [0, 1, 2] rfl, hD.sub (ws' := [(h, oX11 th aw ai ab ac hi re aP ta po en be de fa a5 sp av an ak ne aW aC ag aT aN aF), (aw, kcI cI 2179 fw), (av, kcI cI 400 g644)]) [0, 1, 2] (by decide) rfl, hS, lv_sub (l' := [(3, .int x659), (2, .int x657), (0, .ref h), (1, .int mm)]) hl [0, 1, 2, 3] rfl⟩

set_option maxHeartbeats 4000000 in
set_option maxRecDepth 100000 in
/-- reference: looks -/
theorem r_looksx (l : Launch) (D : va_G) (cI cJ cB cC : ClassId) (h : Nat) (th : Int32) (aw : Nat) (ai : Nat) (ab : Nat) (ac : Nat) (hi : Int32) (re : Int32) (aP : Nat) (ta : Int32) (po : Int32) (en : Int32) (be : Int32) (de : Int32) (fa : Int32) (a5 : Nat) (sp : Int32) (av : Nat) (an : Nat) (ak : Nat) (ne : Int32) (aW : Nat) (aC : Nat) (ag : Nat) (aT : Nat) (aN : Nat) (aF : Nat) (fw : Nat → Int32) (fv : Nat → Int32) (fn : Nat → Int32) (fk : Nat → Int32) (sz : Nat) (H_fw_W : wW fw) (H_fw_L : wL fw) (H_fn_N : wN fn) (H_fk_K : wK fk) : Met l yX11_looks kwX11_looks ({ frames := 7, cells := 0, slots := 0, locals := 167 } : Room) (kPre D (kT cI cJ cB cC) sz [(h, oX11 th aw ai ab ac hi re aP ta po en be de fa a5 sp av an ak ne aW aC ag aT aN aF), (aw, kcI cI 2179 fw), (av, kcI cI 400 fv), (an, kcI cI 10 fn), (ak, kcI cI 10 fk)] [.ref h]) (va_Qv (fun (uu : Int32 × (Nat → Int32) × (Nat → Int32) × (Nat → Int32)) => match uu with | (n0_, f1_, f2_, f3_) => Rg n0_ 0 10 ∧ wN f2_ ∧ wK f3_ ∧ (lkP fw f2_ f3_ n0_ (cN (fw 0))) ∧ F_r_looksx (gT fw) (gT fv) (gT fn) (gT fk) = ((n0_ : Int32).toInt, (gT f1_), (gT f2_), (gT f3_))) (fun (uu : Int32 × (Nat → Int32) × (Nat → Int32) × (Nat → Int32)) (t : State) => match uu with | (n0_, f1_, f2_, f3_) => kB D (kT cI cJ cB cC) (va_A [(h, oX11 th aw ai ab ac hi re aP ta po en be de fa a5 sp av an ak ne aW aC ag aT aN aF), (aw, kcI cI 2179 fw), (av, kcI cI 400 fv), (an, kcI cI 10 fn), (ak, kcI cI 10 fk)] sz) [(h, oX11 th aw ai ab ac hi re aP ta po en be de fa a5 sp av an ak n0_ aW aC ag aT aN aF), (aw, kcI cI 2179 fw), (av, kcI cI 400 f1_), (an, kcI cI 10 f2_), (ak, kcI cI 10 f3_)] t) (va_A [(h, oX11 th aw ai ab ac hi re aP ta po en be de fa a5 sp av an ak ne aW aC ag aT aN aF), (aw, kcI cI 2179 fw), (av, kcI cI 400 fv), (an, kcI cI 10 fn), (ak, kcI cI 10 fk)] sz)) 0 0 (va_A [(h, oX11 th aw ai ab ac hi re aP ta po en be de fa a5 sp av an ak ne aW aC ag aT aN aF), (aw, kcI cI 2179 fw), (av, kcI cI 400 fv), (an, kcI cI 10 fn), (ak, kcI cI 10 fk)] sz) := by
  refine Met.ofW (cc := cX11_looks) (maxL := 2) (ret := none) (by decide) rfl ?_
  intro p e s m args below meth c s₁ B hml hv
  obtain ⟨rfl, hsz, hN, hE, hP, hK, hD0⟩ := hv
  have hx := B.exec
  have hb := B.bytes
  have hr := B.returns
  have hts := fun (w : Cond) (h : w ∈ kG) => atoms_spec (ws := kwX11_looks) B.pre w (List.mem_cons_of_mem _ h)
  have hown : s.vm.findClass RX11 = some m.cls := findClass_of_methodNamed B.named
  subst hsz
  have hD := hD0.self (sz := s.heap.size)
  generalize hAe : va_A [(h, oX11 th aw ai ab ac hi re aP ta po en be de fa a5 sp av an ak ne aW aC ag aT aN aF), (aw, kcI cI 2179 fw), (av, kcI cI 400 fv), (an, kcI cI 10 fn), (ak, kcI cI 10 fk)] s.heap.size = A at hD hE ⊢
  have hA : ∀ q : Nat, s.heap.size ≤ q → A q := fun q h => by rw [← hAe]; exact Or.inr h
  have hl := lv_entry ([.ref h]) (n := 2) (Nat.le_of_ble_eq_true rfl)
  rw [lg_entry_eq]
  generalize (lg_sl ([.ref h]) ++ List.replicate (2 - (lg_sl ([.ref h])).length) Slot.unset).toArray = ls at hl ⊢
  have hl : lv_has ls 2 [(0, .ref h)] := hl
  obtain ⟨H, hH0⟩ : ∃ H, H = s.heap := ⟨_, rfl⟩
  have hS : va_S A s.heap H [] := by rw [hH0]; exact va_S.rf
  have hP : va_P D vwCl [(h, oX11 th aw ai ab ac hi re aP ta po en be de fa a5 sp av an ak ne aW aC ag aT aN aF), (aw, kcI cI 2179 fw), (av, kcI cI 400 fv), (an, kcI cI 10 fn), (ak, kcI cI 10 fk)] H := by rw [hH0]; exact hP
  refine kHeap hH0 ?_
  clear hH0
  refine lv_aload_n hx hb dX11_looks_0 rfl (lv_at hl 0 rfl) ?_
  refine lv_iconst (v := 0) hx hb dX11_looks_1 (by decide) ?_
  refine va_put (D := D) (ci := 10) (v := .int 0) (ty := .int) (C := RX11) (T := TX11) (N := 26) hx hb hts iG_X11 tyX11 tyX11_ok nmX11 hown hK hP hD hS 0 rfl rfl 19 (by decide) (hts _ w40_7) (fun _ h9 => h9) rfl (by decide +kernel) rfl rfl (Nat.le_of_ble_eq_true rfl) dX11_looks_2 (fun H locs hP hD hS => ?_)
  have hP : va_P D vwCl [(h, oX11 th aw ai ab ac hi re aP ta po en be de fa a5 sp av an ak 0 aW aC ag aT aN aF), (aw, kcI cI 2179 fw), (av, kcI cI 400 fv), (an, kcI cI 10 fn), (ak, kcI cI 10 fk)] H := hP
  have hD : va_D A [(h, oX11 th aw ai ab ac hi re aP ta po en be de fa a5 sp av an ak 0 aW aC ag aT aN aF), (aw, kcI cI 2179 fw), (av, kcI cI 400 fv), (an, kcI cI 10 fn), (ak, kcI cI 10 fk)] := hD
  refine lv_iconst (v := 0) hx hb dX11_looks_5 (by decide) ?_
  refine lv_istore_n (lv' := [(1, .int 0), (0, .ref h)]) hx hb dX11_looks_6 rfl hl (by decide) rfl (fun ls hl => ?_)
  refine k_loop (hd := 7) (fun (u : Int32 × Int32 × (Nat → Int32) × (Nat → Int32) × (Nat → Int32)) => match u with | (y558, y559, g560, g561, g562) => (10 - (y558).toInt).toNat) (fun (u : Int32 × Int32 × (Nat → Int32) × (Nat → Int32) × (Nat → Int32)) (H : Heap) (locs : List Loc) (ls : Array Slot) => match u with | (y558, y559, g560, g561, g562) => (0 ≤ (y559 : Int32).toInt ∧ (y559 : Int32).toInt ≤ (y558 : Int32).toInt) ∧ (lkP fw g561 g562 y559 (cN y558)) ∧ ((y558 : Int32).toInt ≤ (fw 0).toInt) ∧ (F_r_looksx (gT fw) (gT fv) (gT fn) (gT fk) = F_r_looksx_l1 (gT fw) (y558.toInt, y559.toInt, (gT g560), (gT g561), (gT g562))) ∧ Rg y558 0 10 ∧ Rg y559 0 10 ∧ wN g561 ∧ wK g562 ∧ va_P D vwCl [(h, oX11 th aw ai ab ac hi re aP ta po en be de fa a5 sp av an ak y559 aW aC ag aT aN aF), (aw, kcI cI 2179 fw), (av, kcI cI 400 g560), (an, kcI cI 10 g561), (ak, kcI cI 10 g562)] H ∧ va_D A [(h, oX11 th aw ai ab ac hi re aP ta po en be de fa a5 sp av an ak y559 aW aC ag aT aN aF), (aw, kcI cI 2179 fw), (av, kcI cI 400 g560), (an, kcI cI 10 g561), (ak, kcI cI 10 g562)] ∧ va_S A s.heap H locs ∧ lv_has ls 2 [(1, .int y558), (0, .ref h)]) ((0 : Int32), (0 : Int32), fv, fn, fk) ⟨⟨by decide, Int.le_refl _⟩, lk_0, (by have q1 := (H_fw_W : wW fw).1.1.1; have q2 : (0 : Int32).toInt = 0 := (by decide); omega), rfl, (rg_w (rg_lit (n := 0) (by decide)) (by decide)), (rg_w (rg_lit (n := 0) (by decide)) (by decide)), H_fn_N, H_fk_K, hP.sub (ws' := [(h, oX11 th aw ai ab ac hi re aP ta po en be de fa a5 sp av an ak 0 aW aC ag aT aN aF), (aw, kcI cI 2179 fw), (av, kcI cI 400 fv), (an, kcI cI 10 fn), (ak, kcI cI 10 fk)]) [0, 1, 2, 3, 4] rfl, hD.sub (ws' := [(h, oX11 th aw ai ab ac hi re aP ta po en be de fa a5 sp av an ak 0 aW aC ag aT aN aF), (aw, kcI cI 2179 fw), (av, kcI cI 400 fv), (an, kcI cI 10 fn), (ak, kcI cI 10 fk)]) [0, 1, 2, 3, 4] (by decide) rfl, hS, lv_sub (l' := [(1, .int 0), (0, .ref h)]) hl [0, 1] rfl⟩ (fun u H locs ls hI ih563 => ?_)
  clear hP hD hS hl
  obtain ⟨y558, y559, g560, g561, g562⟩ := u
  obtain ⟨hX7_0, hX7_1, hX7_2, hF1, hy558, hy559, hg561_0, hg562_0, hP, hD, hS, hl⟩ := hI
  have hP : va_P D vwCl [(h, oX11 th aw ai ab ac hi re aP ta po en be de fa a5 sp av an ak y559 aW aC ag aT aN aF), (aw, kcI cI 2179 fw), (av, kcI cI 400 g560), (an, kcI cI 10 g561), (ak, kcI cI 10 g562)] H := hP
  have hD : va_D A [(h, oX11 th aw ai ab ac hi re aP ta po en be de fa a5 sp av an ak y559 aW aC ag aT aN aF), (aw, kcI cI 2179 fw), (av, kcI cI 400 g560), (an, kcI cI 10 g561), (ak, kcI cI 10 g562)] := hD
  have hl : lv_has ls 2 [(1, .int y558), (0, .ref h)] := hl
  refine lv_iload_n hx hb dX11_looks_7 rfl (lv_at hl 0 rfl) ?_
  refine lv_aload_n hx hb dX11_looks_8 rfl (lv_at hl 1 rfl) ?_
  refine kpurei (wc := [(h, oX11 th aw ai ab ac hi re aP ta po en be de fa a5 sp av an ak y559 aW aC ag aT aN aF), (aw, kcI cI 2179 fw)]) hP hD hS hA [0, 1] rfl (by decide) (fun hPc hDc hFc => va_runV (As := []) (rest := [.int y558]) ⟨hx, hb, hml, hown, hts⟩ (r_men l D cI cJ cB cC h th aw ai ab ac hi re aP ta po en be de fa a5 sp av an ak y559 aW aC ag aT aN aF fw H.size H_fw_W) (cwV 0 hts gX11_looks_X11_men rfl rfl rfl ⟨rfl, hdX11_men⟩ ⟨Nat.le_of_ble_eq_true rfl, Nat.le_of_ble_eq_true rfl⟩) ⟨kBlind, va_recv hK hPc (ci := 10) (q0 := 0) rfl rfl, fun U hU hW => ⟨rfl, by rw [hU], hN.warm hW, hE.pass hS hFc hW hU, by rw [hU]; exact hPc, va_K.moved hW.alike hK, hDc⟩⟩ rfl rfl hl.1 rfl (lv_room (Nat.le_of_ble_eq_true rfl)) dX11_looks_9 ⟨Nat.le_of_ble_eq_true rfl, Nat.le_of_ble_eq_true rfl⟩) (fun r564 u H locs hw hP hS => ?_)
  obtain ⟨k565, k566, k567⟩ := hw
  refine lv_icmp_ge (tgt := 67) hx hb dX11_looks_12 (by decide) (fun c568 => ?_) (fun c568 => ?_)
  · skip
    have hP9 := hP.sub (ws' := [(h, oX11 th aw ai ab ac hi re aP ta po en be de fa a5 sp av an ak y559 aW aC ag aT aN aF), (aw, kcI cI 2179 fw), (av, kcI cI 400 g560), (an, kcI cI 10 g561), (ak, kcI cI 10 g562)]) [0, 1, 2, 3, 4] rfl
    have hD9 := hD.sub (ws' := [(h, oX11 th aw ai ab ac hi re aP ta po en be de fa a5 sp av an ak y559 aW aC ag aT aN aF), (aw, kcI cI 2179 fw), (av, kcI cI 400 g560), (an, kcI cI 10 g561), (ak, kcI cI 10 g562)]) [0, 1, 2, 3, 4] (by decide) rfl
    exact W.vret hx hb hr (fun t ht hW => ⟨⟨(y559, g560, g561, g562), rfl, ⟨hy559, hg561_0, hg562_0, (by have q1 := (by have q1 := (leI c568); rw [k565] at q1; exact q1); have q2 := hX7_2; have q3 : cN y558 = cN (fw 0) := (by simp only [cN]; omega); rw [← q3]; exact hX7_1), (hF1.trans (kIter_out (kC_eq rfl (kC_eq rfl (kC_eq rfl (kC_eq rfl (kLet_eq (k567).symm (kif_t (leI c568) rfl))))))))⟩, by rw [ht]; exact hP9, va_K.moved hW.alike hK, hD9⟩, hS.F ht⟩) hS.2.2 dX11_looks_67
  · skip
    have k569 : Rg y558 0 9 := rg_l1 (nleI c568) hy558 k566 (by decide)
    have k570 : Rg r564 1 10 := rg_l2 (nleI c568) hy558 k566 (by decide)
    have k571 : Rg y559 0 9 := (by have q1 := hX7_0; have q2 := k569; unfold Rg at *; exact ⟨by omega, by omega⟩)
    refine lv_aload_n hx hb dX11_looks_15 rfl (lv_at hl 1 rfl) ?_
    refine lv_iload_n hx hb dX11_looks_16 rfl (lv_at hl 0 rfl) ?_
    refine lv_iconst (v := 4) hx hb dX11_looks_17 (by decide) ?_
    refine kpurei (wc := [(h, oX11 th aw ai ab ac hi re aP ta po en be de fa a5 sp av an ak y559 aW aC ag aT aN aF), (aw, kcI cI 2179 fw)]) hP hD hS hA [0, 1] rfl (by decide) (fun hPc hDc hFc => va_runV (As := [.int y558, .int 4]) (rest := []) ⟨hx, hb, hml, hown, hts⟩ (r_ofMan4 l D cI cJ cB cC h th aw ai ab ac hi re aP ta po en be de fa a5 sp av an ak y559 aW aC ag aT aN aF fw y558 H.size k569 H_fw_W) (cwV 2 hts gX11_looks_X11_ofMan rfl rfl rfl ⟨rfl, hdX11_ofMan⟩ ⟨Nat.le_of_ble_eq_true rfl, Nat.le_of_ble_eq_true rfl⟩) ⟨kBlind, va_recv hK hPc (ci := 10) (q0 := 0) rfl rfl, fun U hU hW => ⟨rfl, by rw [hU], hN.warm hW, hE.pass hS hFc hW hU, by rw [hU]; exact hPc, va_K.moved hW.alike hK, hDc⟩⟩ rfl rfl hl.1 rfl (lv_room (Nat.le_of_ble_eq_true rfl)) dX11_looks_18 ⟨Nat.le_of_ble_eq_true rfl, Nat.le_of_ble_eq_true rfl⟩) (fun r572 u H locs hw hP hS => ?_)
    obtain ⟨k573, k574, k575⟩ := hw
    refine lv_if_lt (tgt := 27) hx hb dX11_looks_21 (by decide) (fun c590 => ?_) (fun c590 => ?_)
    · skip
      have k591 : Rg r572 (-1) (-1) := rg_l1 (ltI c590) k574 (rg_lit (n := 0) (by decide)) (by decide)
      refine lv_aload_n hx hb dX11_looks_27 rfl (lv_at hl 1 rfl) ?_
      refine va_get (D := D) (ci := 10) (v := .ref an) (C := RX11) (T := TX11) (N := 26) hx hb hts iG_X11 hown hK hP 0 rfl rfl 17 (by decide) (hts _ w5_12) (fun _ h9 => h9) rfl dX11_looks_28 ?_
      refine lv_aload_n hx hb dX11_looks_31 rfl (lv_at hl 1 rfl) ?_
      refine va_get (D := D) (ci := 10) (v := .int y559) (C := RX11) (T := TX11) (N := 26) hx hb hts iG_X11 hown hK hP 0 rfl rfl 19 (by decide) (hts _ w40_7) (fun _ h9 => h9) rfl dX11_looks_32 ?_
      refine lv_iload_n hx hb dX11_looks_35 rfl (lv_at hl 0 rfl) ?_
      refine va_iast hx hb hK hP hD hS 3 0 rfl rfl (rg_in k571 (by decide)) dX11_looks_36 (fun H locs hP hD hS => ?_)
      have hP : va_P D vwCl [(h, oX11 th aw ai ab ac hi re aP ta po en be de fa a5 sp av an ak y559 aW aC ag aT aN aF), (aw, kcI cI 2179 fw), (av, kcI cI 400 g560), (an, kcI cI 10 (upd g561 y559.toNatClampNeg y558)), (ak, kcI cI 10 g562)] H := hP
      have hD : va_D A [(h, oX11 th aw ai ab ac hi re aP ta po en be de fa a5 sp av an ak y559 aW aC ag aT aN aF), (aw, kcI cI 2179 fw), (av, kcI cI 400 g560), (an, kcI cI 10 (upd g561 y559.toNatClampNeg y558)), (ak, kcI cI 10 g562)] := hD
      have k593 : wN (upd g561 y559.toNatClampNeg y558) := wN_upd hg561_0 k569
      generalize hg592 : (upd g561 y559.toNatClampNeg y558) = g592 at hP hD k593
      refine lv_aload_n hx hb dX11_looks_37 rfl (lv_at hl 1 rfl) ?_
      refine va_get (D := D) (ci := 10) (v := .ref ak) (C := RX11) (T := TX11) (N := 26) hx hb hts iG_X11 hown hK hP 0 rfl rfl 18 (by decide) (hts _ w5_13) (fun _ h9 => h9) rfl dX11_looks_38 ?_
      refine lv_aload_n hx hb dX11_looks_41 rfl (lv_at hl 1 rfl) ?_
      refine va_get (D := D) (ci := 10) (v := .int y559) (C := RX11) (T := TX11) (N := 26) hx hb hts iG_X11 hown hK hP 0 rfl rfl 19 (by decide) (hts _ w40_7) (fun _ h9 => h9) rfl dX11_looks_42 ?_
      refine lv_aload_n hx hb dX11_looks_45 rfl (lv_at hl 1 rfl) ?_
      refine lv_iload_n hx hb dX11_looks_46 rfl (lv_at hl 0 rfl) ?_
      refine kcalli (wc := [(h, oX11 th aw ai ab ac hi re aP ta po en be de fa a5 sp av an ak y559 aW aC ag aT aN aF), (aw, kcI cI 2179 fw), (av, kcI cI 400 g560)]) (wr := [(an, kcI cI 10 g592), (ak, kcI cI 10 g562)]) hP hD hS hA [0, 1, 2] [3, 4] rfl rfl (by decide) (by decide) (by decide) (fun hPc hDc hFc => va_runV (As := [.int y558]) (rest := [.int y559, .ref ak]) ⟨hx, hb, hml, hown, hts⟩ (r_givablex l D cI cJ cB cC h th aw ai ab ac hi re aP ta po en be de fa a5 sp av an ak y559 aW aC ag aT aN aF fw g560 y558 H.size k569 H_fw_W H_fw_L) (cwV 1 hts gX11_looks_X11_givable rfl rfl rfl ⟨rfl, hdX11_givable⟩ ⟨Nat.le_of_ble_eq_true rfl, Nat.le_of_ble_eq_true rfl⟩) ⟨kBlind, va_recv hK hPc (ci := 10) (q0 := 0) rfl rfl, fun U hU hW => ⟨rfl, by rw [hU], hN.warm hW, hE.pass hS hFc hW hU, by rw [hU]; exact hPc, va_K.moved hW.alike hK, hDc⟩⟩ rfl rfl hl.1 rfl (lv_room (Nat.le_of_ble_eq_true rfl)) dX11_looks_47 ⟨Nat.le_of_ble_eq_true rfl, Nat.le_of_ble_eq_true rfl⟩) (fun r594 u H locs hw hP hD hS => ?_)
      obtain ⟨g595, rfl⟩ : ∃ z, z = u := ⟨_, rfl⟩
      have hP : va_P D vwCl [(an, kcI cI 10 g592), (ak, kcI cI 10 g562), (h, oX11 th aw ai ab ac hi re aP ta po en be de fa a5 sp av an ak y559 aW aC ag aT aN aF), (aw, kcI cI 2179 fw), (av, kcI cI 400 g595)] H := hP
      have hD : va_D A [(an, kcI cI 10 g592), (ak, kcI cI 10 g562), (h, oX11 th aw ai ab ac hi re aP ta po en be de fa a5 sp av an ak y559 aW aC ag aT aN aF), (aw, kcI cI 2179 fw), (av, kcI cI 400 g595)] := hD
      obtain ⟨k596, k597, k598⟩ := hw
      refine va_iast hx hb hK hP hD hS 1 0 rfl rfl (rg_in k571 (by decide)) dX11_looks_50 (fun H locs hP hD hS => ?_)
      have hP : va_P D vwCl [(an, kcI cI 10 g592), (ak, kcI cI 10 (upd g562 y559.toNatClampNeg r594)), (h, oX11 th aw ai ab ac hi re aP ta po en be de fa a5 sp av an ak y559 aW aC ag aT aN aF), (aw, kcI cI 2179 fw), (av, kcI cI 400 g595)] H := hP
      have hD : va_D A [(an, kcI cI 10 g592), (ak, kcI cI 10 (upd g562 y559.toNatClampNeg r594)), (h, oX11 th aw ai ab ac hi re aP ta po en be de fa a5 sp av an ak y559 aW aC ag aT aN aF), (aw, kcI cI 2179 fw), (av, kcI cI 400 g595)] := hD
      have k600 : wK (upd g562 y559.toNatClampNeg r594) := wK_upd hg562_0 k597
      generalize hg599 : (upd g562 y559.toNatClampNeg r594) = g599 at hP hD k600
      refine lv_aload_n hx hb dX11_looks_51 rfl (lv_at hl 1 rfl) ?_
      refine lv_dup hx hb dX11_looks_52 rfl ?_
      refine va_get (D := D) (ci := 10) (v := .int y559) (C := RX11) (T := TX11) (N := 26) hx hb hts iG_X11 hown hK hP 2 rfl rfl 19 (by decide) (hts _ w40_7) (fun _ h9 => h9) rfl dX11_looks_53 ?_
      refine lv_iconst (v := 1) hx hb dX11_looks_56 (by decide) ?_
      refine lv_iadd hx hb dX11_looks_57 ?_
      refine lv_topi (fun x601 ex601 => ?_)
      have tx601 : x601.toInt = y559.toInt + 1 := ti_add ex601 k571 (rg_lit (n := 1) (by decide)) (by decide) rfl (by decide)
      have k602 : Rg x601 1 10 := rg_add ex601 k571 (rg_lit (n := 1) (by decide)) (by decide)
      refine va_put (D := D) (ci := 10) (v := .int x601) (ty := .int) (C := RX11) (T := TX11) (N := 26) hx hb hts iG_X11 tyX11 tyX11_ok nmX11 hown hK hP hD hS 2 rfl rfl 19 (by decide) (hts _ w40_7) (fun _ h9 => h9) rfl (by decide +kernel) rfl rfl (Nat.le_of_ble_eq_true rfl) dX11_looks_58 (fun H locs hP hD hS => ?_)
      have hP : va_P D vwCl [(an, kcI cI 10 g592), (ak, kcI cI 10 g599), (h, oX11 th aw ai ab ac hi re aP ta po en be de fa a5 sp av an ak x601 aW aC ag aT aN aF), (aw, kcI cI 2179 fw), (av, kcI cI 400 g595)] H := hP
      have hD : va_D A [(an, kcI cI 10 g592), (ak, kcI cI 10 g599), (h, oX11 th aw ai ab ac hi re aP ta po en be de fa a5 sp av an ak x601 aW aC ag aT aN aF), (aw, kcI cI 2179 fw), (av, kcI cI 400 g595)] := hD
      obtain ⟨x603, ex603⟩ : ∃ y : Int32, y = y558 + 1 := ⟨_, rfl⟩
      refine lv_iinc (v := x603) (lv' := [(1, .int x603), (0, .ref h)]) hx hb dX11_looks_61 hl (k := 0) rfl (by rw [ex603]; rfl) (by decide) rfl (fun ls hl => ?_)
      have k604 : Rg x603 1 10 := rg_add ex603 k569 (rg_lit (n := 1) (by decide)) (by decide)
      refine lv_goto (tgt := 7) hx hb dX11_looks_64 (by decide) ?_
      exact ih563 (x603, x601, g595, g592, g599) _ _ _ (by show (10 - (x603).toInt).toNat < (10 - (y558).toInt).toNat; exact mu_up ex603 k569 k604 (by decide)) ⟨(by have q1 := hX7_0; have q2 := (ti_add (Y := 1) ex603 k569 (rg_lit (n := 1) (by decide)) (by decide) rfl (by decide)); have q3 := tx601; exact ⟨by omega, by omega⟩), (lk_take hX7_1 k569 (ti_add (Y := 1) ex603 k569 (rg_lit (n := 1) (by decide)) (by decide) rfl (by decide)) (by rw [← k573]; exact (by have q1 := (ltI c590); have q2 : (0 : Int32).toInt = 0 := (by decide); omega)) hg592 hg599 k596 (cl_of (k := cN y559) k571 (by decide) (by simp only [cN]; have q1 := k571; unfold Rg at q1; omega)) (cl_of (k := cN y559) k571 (by decide) (by simp only [cN]; have q1 := k571; unfold Rg at q1; omega)) tx601), (by have q1 := (by have q1 := (nleI c568); rw [k565] at q1; exact q1); have q2 := (ti_add (Y := 1) ex603 k569 (rg_lit (n := 1) (by decide)) (by decide) rfl (by decide)); have q3 := tx601; omega), (hF1.trans (kIter_go (kC_eq rfl (kC_eq rfl (kC_eq rfl (kC_eq rfl (kLet_eq (k567).symm (kif_f (xF_le c568) (kLet_eq (k575).symm (kif_t (ltI c590) (kLet_eq (ke_st hg592) (kC_eq k598 (kLet_eq (ke_st hg599) (kLet_eq (ti_add ex601 k571 (rg_lit (n := 1) (by decide)) (by decide) rfl rfl) (kLet_eq (ti_add ex603 k569 (rg_lit (n := 1) (by decide)) (by decide) rfl rfl) rfl))))))))))))))), (rg_w k604 (by decide)), (rg_w k602 (by decide)), k593, k600, hP.sub (ws' := [(h, oX11 th aw ai ab ac hi re aP ta po en be de fa a5 sp av an ak x601 aW aC ag aT aN aF), (aw, kcI cI 2179 fw), (av, kcI cI 400 g595), (an, kcI cI 10 g592), (ak, kcI cI 10 g599)]) [2, 3, 4, 0, 1] rfl, hD.sub (ws' := [(h, oX11 th aw ai ab ac hi re aP ta po en be de fa a5 sp av an ak x601 aW aC ag aT aN aF), (aw, kcI cI 2179 fw), (av, kcI cI 400 g595), (an, kcI cI 10 g592), (ak, kcI cI 10 g599)]) [2, 3, 4, 0, 1] (by decide) rfl, hS, lv_sub (l' := [(1, .int x603), (0, .ref h)]) hl [0, 1] rfl⟩
    · skip
      have k605 : Rg r572 0 11 := rg_e2 (nltI c590) (rg_lit (n := 0) (by decide)) k574 (by decide)
      refine lv_goto (tgt := 61) hx hb dX11_looks_24 (by decide) ?_
      obtain ⟨x606, ex606⟩ : ∃ y : Int32, y = y558 + 1 := ⟨_, rfl⟩
      refine lv_iinc (v := x606) (lv' := [(1, .int x606), (0, .ref h)]) hx hb dX11_looks_61 hl (k := 0) rfl (by rw [ex606]; rfl) (by decide) rfl (fun ls hl => ?_)
      have k607 : Rg x606 1 10 := rg_add ex606 k569 (rg_lit (n := 1) (by decide)) (by decide)
      refine lv_goto (tgt := 7) hx hb dX11_looks_64 (by decide) ?_
      exact ih563 (x606, y559, g560, g561, g562) _ _ _ (by show (10 - (x606).toInt).toNat < (10 - (y558).toInt).toNat; exact mu_up ex606 k569 k607 (by decide)) ⟨(by have q1 := hX7_0; have q2 := (ti_add (Y := 1) ex606 k569 (rg_lit (n := 1) (by decide)) (by decide) rfl (by decide)); exact ⟨by omega, by omega⟩), (lk_skip hX7_1 k569 (ti_add (Y := 1) ex606 k569 (rg_lit (n := 1) (by decide)) (by decide) rfl (by decide)) (by rw [← k573]; have q1 := (nltI c590); have q3 : (0 : Int32).toInt = 0 := (by decide); omega)), (by have q1 := (by have q1 := (nleI c568); rw [k565] at q1; exact q1); have q2 := (ti_add (Y := 1) ex606 k569 (rg_lit (n := 1) (by decide)) (by decide) rfl (by decide)); omega), (hF1.trans (kIter_go (kC_eq rfl (kC_eq rfl (kC_eq rfl (kC_eq rfl (kLet_eq (k567).symm (kif_f (xF_le c568) (kLet_eq (k575).symm (kif_f (xF_lt c590) (kLet_eq (ti_add ex606 k569 (rg_lit (n := 1) (by decide)) (by decide) rfl rfl) rfl))))))))))), (rg_w k607 (by decide)), (rg_w k571 (by decide)), hg561_0, hg562_0, hP.sub (ws' := [(h, oX11 th aw ai ab ac hi re aP ta po en be de fa a5 sp av an ak y559 aW aC ag aT aN aF), (aw, kcI cI 2179 fw), (av, kcI cI 400 g560), (an, kcI cI 10 g561), (ak, kcI cI 10 g562)]) [0, 1, 2, 3, 4] rfl, hD.sub (ws' := [(h, oX11 th aw ai ab ac hi re aP ta po en be de fa a5 sp av an ak y559 aW aC ag aT aN aF), (aw, kcI cI 2179 fw), (av, kcI cI 400 g560), (an, kcI cI 10 g561), (ak, kcI cI 10 g562)]) [0, 1, 2, 3, 4] (by decide) rfl, hS, lv_sub (l' := [(1, .int x606), (0, .ref h)]) hl [0, 1] rfl⟩

