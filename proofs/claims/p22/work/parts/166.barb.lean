def kwX11_costOf : List Cond := .code yX11_costOf cX11_costOf 5 (some .int) :: kG
theorem hdX11_costOf : yX11_costOf.cls ≠ "java/lang/invoke/MethodHandle" ∧ yX11_costOf.cls ≠ "java/lang/invoke/VarHandle" ∧ (parseMethodDescriptor yX11_costOf.desc).map (fun d => d.parameters.length) = some 2 := by decide +kernel
theorem gX11_costOf_X11_holdsLine : GoodIn kG (wsV RX11 277 RX11 yX11_holdsLine kwX11_holdsLine) := gK w30_15 (gK w30_16 (gK w30_17 (gK w0_5 (gK w30_18 gGG))))
theorem dX11_costOf_0 : decode cX11_costOf 0 = .ok (.iconst 0, 1) := by decide +kernel
theorem dX11_costOf_1 : decode cX11_costOf 1 = .ok (.istore_n 3, 1) := by decide +kernel
theorem dX11_costOf_2 : decode cX11_costOf 2 = .ok (.iconst 0, 1) := by decide +kernel
theorem dX11_costOf_3 : decode cX11_costOf 3 = .ok (.istore 4, 2) := by decide +kernel
theorem dX11_costOf_5 : decode cX11_costOf 5 = .ok (.aload_n 0, 1) := by decide +kernel
theorem dX11_costOf_6 : decode cX11_costOf 6 = .ok (.getfield 13, 3) := by decide +kernel
theorem dX11_costOf_9 : decode cX11_costOf 9 = .ok (.iconst 3, 1) := by decide +kernel
theorem dX11_costOf_10 : decode cX11_costOf 10 = .ok (.iaload, 1) := by decide +kernel
theorem dX11_costOf_11 : decode cX11_costOf 11 = .ok (.iconst 1, 1) := by decide +kernel
theorem dX11_costOf_12 : decode cX11_costOf 12 = .ok (.if_icmp .ne 69, 3) := by decide +kernel
theorem dX11_costOf_15 : decode cX11_costOf 15 = .ok (.iload 4, 2) := by decide +kernel
theorem dX11_costOf_17 : decode cX11_costOf 17 = .ok (.aload_n 0, 1) := by decide +kernel
theorem dX11_costOf_18 : decode cX11_costOf 18 = .ok (.getfield 13, 3) := by decide +kernel
theorem dX11_costOf_21 : decode cX11_costOf 21 = .ok (.sipush 505, 3) := by decide +kernel
theorem dX11_costOf_24 : decode cX11_costOf 24 = .ok (.iaload, 1) := by decide +kernel
theorem dX11_costOf_25 : decode cX11_costOf 25 = .ok (.if_icmp .ge 56, 3) := by decide +kernel
theorem dX11_costOf_28 : decode cX11_costOf 28 = .ok (.iload_n 3, 1) := by decide +kernel
theorem dX11_costOf_29 : decode cX11_costOf 29 = .ok (.aload_n 0, 1) := by decide +kernel
theorem dX11_costOf_30 : decode cX11_costOf 30 = .ok (.getfield 13, 3) := by decide +kernel
theorem dX11_costOf_33 : decode cX11_costOf 33 = .ok (.sipush 506, 3) := by decide +kernel
theorem dX11_costOf_36 : decode cX11_costOf 36 = .ok (.iconst 3, 1) := by decide +kernel
theorem dX11_costOf_37 : decode cX11_costOf 37 = .ok (.iload 4, 2) := by decide +kernel
theorem dX11_costOf_39 : decode cX11_costOf 39 = .ok (.imul, 1) := by decide +kernel
theorem dX11_costOf_40 : decode cX11_costOf 40 = .ok (.iadd, 1) := by decide +kernel
theorem dX11_costOf_41 : decode cX11_costOf 41 = .ok (.iaload, 1) := by decide +kernel
theorem dX11_costOf_42 : decode cX11_costOf 42 = .ok (.ifCond .lt 30, 3) := by decide +kernel
theorem dX11_costOf_45 : decode cX11_costOf 45 = .ok (.aload_n 0, 1) := by decide +kernel
theorem dX11_costOf_46 : decode cX11_costOf 46 = .ok (.iload 4, 2) := by decide +kernel
theorem dX11_costOf_48 : decode cX11_costOf 48 = .ok (.iload_n 1, 1) := by decide +kernel
theorem dX11_costOf_49 : decode cX11_costOf 49 = .ok (.iload_n 2, 1) := by decide +kernel
theorem dX11_costOf_50 : decode cX11_costOf 50 = .ok (.invokevirtual 277, 3) := by decide +kernel
theorem dX11_costOf_53 : decode cX11_costOf 53 = .ok (.ifCond .eq 19, 3) := by decide +kernel
theorem dX11_costOf_56 : decode cX11_costOf 56 = .ok (.aload_n 0, 1) := by decide +kernel
theorem dX11_costOf_57 : decode cX11_costOf 57 = .ok (.getfield 13, 3) := by decide +kernel
theorem dX11_costOf_60 : decode cX11_costOf 60 = .ok (.sipush 506, 3) := by decide +kernel
theorem dX11_costOf_63 : decode cX11_costOf 63 = .ok (.iconst 3, 1) := by decide +kernel
theorem dX11_costOf_64 : decode cX11_costOf 64 = .ok (.iload 4, 2) := by decide +kernel
theorem dX11_costOf_66 : decode cX11_costOf 66 = .ok (.imul, 1) := by decide +kernel
theorem dX11_costOf_67 : decode cX11_costOf 67 = .ok (.iadd, 1) := by decide +kernel
theorem dX11_costOf_68 : decode cX11_costOf 68 = .ok (.iaload, 1) := by decide +kernel
theorem dX11_costOf_69 : decode cX11_costOf 69 = .ok (.goto 4, 3) := by decide +kernel
theorem dX11_costOf_72 : decode cX11_costOf 72 = .ok (.iconst 0, 1) := by decide +kernel
theorem dX11_costOf_73 : decode cX11_costOf 73 = .ok (.iadd, 1) := by decide +kernel
theorem dX11_costOf_74 : decode cX11_costOf 74 = .ok (.istore_n 3, 1) := by decide +kernel
theorem dX11_costOf_75 : decode cX11_costOf 75 = .ok (.iinc 4 1, 3) := by decide +kernel
theorem dX11_costOf_78 : decode cX11_costOf 78 = .ok (.goto (-73), 3) := by decide +kernel
theorem dX11_costOf_81 : decode cX11_costOf 81 = .ok (.iload_n 3, 1) := by decide +kernel
theorem dX11_costOf_82 : decode cX11_costOf 82 = .ok (.ireturn, 1) := by decide +kernel
set_option maxHeartbeats 4000000 in
set_option maxRecDepth 100000 in
/-- reference: costOf -/
theorem r_costOf (l : Launch) (D : va_G) (cI cJ cB cC : ClassId) (h : Nat) (th : Int32) (aw : Nat) (ai : Nat) (ab : Nat) (ac : Nat) (hi : Int32) (re : Int32) (aP : Nat) (ta : Int32) (po : Int32) (en : Int32) (be : Int32) (de : Int32) (fa : Int32) (a5 : Nat) (sp : Int32) (av : Nat) (an : Nat) (ak : Nat) (ne : Int32) (aW : Nat) (aC : Nat) (ag : Nat) (aT : Nat) (aN : Nat) (aF : Nat) (fw : Nat → Int32) (fv : Nat → Int32) (mm : Int32) (b : Int32) (sz : Nat) (H_mm : Rg mm 0 9) (H_b : Rg b 0 11) (H_fw_W : wW fw) (H_fw_L : wL fw) : Met l yX11_costOf kwX11_costOf ({ frames := 5, cells := 0, slots := 0, locals := 120 } : Room) (kPre D (kT cI cJ cB cC) sz [(h, oX11 th aw ai ab ac hi re aP ta po en be de fa a5 sp av an ak ne aW aC ag aT aN aF), (aw, kcI cI 2179 fw), (av, kcI cI 400 fv)] [.ref h, .int mm, .int b]) (va_Qi (fun (r : Int32) (f0_ : (Nat → Int32)) => F_r_costOf (gT fw) (gT fv) (mm : Int32).toInt (b : Int32).toInt = ((r : Int32).toInt, (gT f0_))) (fun (f0_ : (Nat → Int32)) (t : State) => kB D (kT cI cJ cB cC) (va_A [(h, oX11 th aw ai ab ac hi re aP ta po en be de fa a5 sp av an ak ne aW aC ag aT aN aF), (aw, kcI cI 2179 fw), (av, kcI cI 400 fv)] sz) [(h, oX11 th aw ai ab ac hi re aP ta po en be de fa a5 sp av an ak ne aW aC ag aT aN aF), (aw, kcI cI 2179 fw), (av, kcI cI 400 f0_)] t) (va_A [(h, oX11 th aw ai ab ac hi re aP ta po en be de fa a5 sp av an ak ne aW aC ag aT aN aF), (aw, kcI cI 2179 fw), (av, kcI cI 400 fv)] sz)) 0 0 (va_A [(h, oX11 th aw ai ab ac hi re aP ta po en be de fa a5 sp av an ak ne aW aC ag aT aN aF), (aw, kcI cI 2179 fw), (av, kcI cI 400 fv)] sz) := by
  refine Met.ofW (cc := cX11_costOf) (maxL := 5) (ret := (some .int)) (by decide) rfl ?_
  intro p e s m args below meth c s₁ B hml hv
  obtain ⟨rfl, hsz, hN, hE, hP, hK, hD0⟩ := hv
  have hx := B.exec
  have hb := B.bytes
  have hr := B.returns
  have hts := fun (w : Cond) (h : w ∈ kG) => atoms_spec (ws := kwX11_costOf) B.pre w (List.mem_cons_of_mem _ h)
  have hown : s.vm.findClass RX11 = some m.cls := findClass_of_methodNamed B.named
  subst hsz
  have hD := hD0.self (sz := s.heap.size)
  generalize hAe : va_A [(h, oX11 th aw ai ab ac hi re aP ta po en be de fa a5 sp av an ak ne aW aC ag aT aN aF), (aw, kcI cI 2179 fw), (av, kcI cI 400 fv)] s.heap.size = A at hD hE ⊢
  have hA : ∀ q : Nat, s.heap.size ≤ q → A q := fun q h => by rw [← hAe]; exact Or.inr h
  have hl := lv_entry ([.ref h, .int mm, .int b]) (n := 5) (Nat.le_of_ble_eq_true rfl)
  rw [lg_entry_eq]
  generalize (lg_sl ([.ref h, .int mm, .int b]) ++ List.replicate (5 - (lg_sl ([.ref h, .int mm, .int b])).length) Slot.unset).toArray = ls at hl ⊢
  have hl : lv_has ls 5 [(0, .ref h), (1, .int mm), (2, .int b)] := hl
  obtain ⟨H, hH0⟩ : ∃ H, H = s.heap := ⟨_, rfl⟩
  have hS : va_S A s.heap H [] := by rw [hH0]; exact va_S.rf
  have hP : va_P D vwCl [(h, oX11 th aw ai ab ac hi re aP ta po en be de fa a5 sp av an ak ne aW aC ag aT aN aF), (aw, kcI cI 2179 fw), (av, kcI cI 400 fv)] H := by rw [hH0]; exact hP
  refine kHeap hH0 ?_
  clear hH0
  refine lv_iconst (v := 0) hx hb dX11_costOf_0 (by decide) ?_
  refine lv_istore_n (lv' := [(3, .int 0), (0, .ref h), (1, .int mm), (2, .int b)]) hx hb dX11_costOf_1 rfl hl (by decide) rfl (fun ls hl => ?_)
  refine lv_iconst (v := 0) hx hb dX11_costOf_2 (by decide) ?_
  refine lv_istore (lv' := [(4, .int 0), (3, .int 0), (0, .ref h), (1, .int mm), (2, .int b)]) hx hb dX11_costOf_3 hl (by decide) rfl (fun ls hl => ?_)
  refine k_loop (hd := 5) (fun (u : Int32 × Int32 × (Nat → Int32)) => match u with | (y610, y611, g612) => (12 - (y610).toInt).toNat) (fun (u : Int32 × Int32 × (Nat → Int32)) (H : Heap) (locs : List Loc) (ls : Array Slot) => match u with | (y610, y611, g612) => (F_r_costOf (gT fw) (gT fv) mm.toInt b.toInt = F_r_costOf_l1 (gT fw) mm.toInt b.toInt (y610.toInt, y611.toInt, (gT g612))) ∧ Rg y610 0 12 ∧ va_P D vwCl [(h, oX11 th aw ai ab ac hi re aP ta po en be de fa a5 sp av an ak ne aW aC ag aT aN aF), (aw, kcI cI 2179 fw), (av, kcI cI 400 g612)] H ∧ va_D A [(h, oX11 th aw ai ab ac hi re aP ta po en be de fa a5 sp av an ak ne aW aC ag aT aN aF), (aw, kcI cI 2179 fw), (av, kcI cI 400 g612)] ∧ va_S A s.heap H locs ∧ lv_has ls 5 [(4, .int y610), (3, .int y611), (0, .ref h), (1, .int mm), (2, .int b)]) ((0 : Int32), (0 : Int32), fv) ⟨rfl, (rg_w (rg_lit (n := 0) (by decide)) (by decide)), hP.sub (ws' := [(h, oX11 th aw ai ab ac hi re aP ta po en be de fa a5 sp av an ak ne aW aC ag aT aN aF), (aw, kcI cI 2179 fw), (av, kcI cI 400 fv)]) [0, 1, 2] rfl, hD.sub (ws' := [(h, oX11 th aw ai ab ac hi re aP ta po en be de fa a5 sp av an ak ne aW aC ag aT aN aF), (aw, kcI cI 2179 fw), (av, kcI cI 400 fv)]) [0, 1, 2] (by decide) rfl, hS, lv_sub (l' := [(4, .int 0), (3, .int 0), (0, .ref h), (1, .int mm), (2, .int b)]) hl [0, 1, 2, 3, 4] rfl⟩ (fun u H locs ls hI ih613 => ?_)
  clear hP hD hS hl
  obtain ⟨y610, y611, g612⟩ := u
  obtain ⟨hF1, hy610, hP, hD, hS, hl⟩ := hI
  have hP : va_P D vwCl [(h, oX11 th aw ai ab ac hi re aP ta po en be de fa a5 sp av an ak ne aW aC ag aT aN aF), (aw, kcI cI 2179 fw), (av, kcI cI 400 g612)] H := hP
  have hD : va_D A [(h, oX11 th aw ai ab ac hi re aP ta po en be de fa a5 sp av an ak ne aW aC ag aT aN aF), (aw, kcI cI 2179 fw), (av, kcI cI 400 g612)] := hD
  have hl : lv_has ls 5 [(4, .int y610), (3, .int y611), (0, .ref h), (1, .int mm), (2, .int b)] := hl
  refine lv_aload_n hx hb dX11_costOf_5 rfl (lv_at hl 2 rfl) ?_
  refine va_get (D := D) (ci := 10) (v := .ref aw) (C := RX11) (T := TX11) (N := 26) hx hb hts iG_X11 hown hK hP 0 rfl rfl 1 (by decide) (hts _ w5_3) (fun _ h9 => h9) rfl dX11_costOf_6 ?_
  refine lv_iconst (v := 3) hx hb dX11_costOf_9 (by decide) ?_
  refine va_iald hx hb hK hP 1 0 rfl rfl (rg_in (rg_lit (n := 3) (by decide)) (by decide)) dX11_costOf_10 ?_
  refine lv_topi (fun x614 ex614 => ?_)
  refine lv_iconst (v := 1) hx hb dX11_costOf_11 (by decide) ?_
  refine k_join (hd := 81) (cells2 := 0) (slots2 := 0) (fun (_ : Unit) => []) (fun (_ : Unit) (H : Heap) (locs : List Loc) (ls : Array Slot) => (F_r_costOf_l1_s (gT fw) mm.toInt b.toInt (y610.toInt, y611.toInt, (gT g612)) = F_r_costOf_j2 y611.toInt (gT g612)) ∧ va_P D vwCl [(h, oX11 th aw ai ab ac hi re aP ta po en be de fa a5 sp av an ak ne aW aC ag aT aN aF), (aw, kcI cI 2179 fw), (av, kcI cI 400 g612)] H ∧ va_D A [(h, oX11 th aw ai ab ac hi re aP ta po en be de fa a5 sp av an ak ne aW aC ag aT aN aF), (aw, kcI cI 2179 fw), (av, kcI cI 400 g612)] ∧ va_S A s.heap H locs ∧ lv_has ls 5 [(4, .int y610), (3, .int y611), (0, .ref h), (1, .int mm), (2, .int b)]) (fun u H locs ls hI => ?_) (fun hJ81 => ?_)
  · skip
    clear hP hD hS hl
    obtain ⟨hF2, hP, hD, hS, hl⟩ := hI
    have hP : va_P D vwCl [(h, oX11 th aw ai ab ac hi re aP ta po en be de fa a5 sp av an ak ne aW aC ag aT aN aF), (aw, kcI cI 2179 fw), (av, kcI cI 400 g612)] H := hP
    have hD : va_D A [(h, oX11 th aw ai ab ac hi re aP ta po en be de fa a5 sp av an ak ne aW aC ag aT aN aF), (aw, kcI cI 2179 fw), (av, kcI cI 400 g612)] := hD
    have hl : lv_has ls 5 [(4, .int y610), (3, .int y611), (0, .ref h), (1, .int mm), (2, .int b)] := hl
    refine lv_iload_n hx hb dX11_costOf_81 rfl (lv_at hl 1 rfl) ?_
    have hP9 := hP.sub (ws' := [(h, oX11 th aw ai ab ac hi re aP ta po en be de fa a5 sp av an ak ne aW aC ag aT aN aF), (aw, kcI cI 2179 fw), (av, kcI cI 400 g612)]) [0, 1, 2] rfl
    have hD9 := hD.sub (ws' := [(h, oX11 th aw ai ab ac hi re aP ta po en be de fa a5 sp av an ak ne aW aC ag aT aN aF), (aw, kcI cI 2179 fw), (av, kcI cI 400 g612)]) [0, 1, 2] (by decide) rfl
    exact W.iret (v := y611) hx hb hr (fun t ht hW => ⟨⟨y611, (g612), rfl, (hF1.trans (kIter_out (hF2.trans rfl))), by rw [ht]; exact hP9, va_K.moved hW.alike hK, hD9⟩, hS.F ht⟩) hS.2.2 dX11_costOf_82
  refine lv_icmp_ne (tgt := 81) hx hb dX11_costOf_12 (by decide) (fun c650 => ?_) (fun c650 => ?_)
  · skip
    exact hJ81 () _ _ _ ⟨(kC_eq rfl (kC_eq rfl (kLet_eq (ke_ld ex614) (kif_f (neI c650) rfl)))), hP.sub (ws' := [(h, oX11 th aw ai ab ac hi re aP ta po en be de fa a5 sp av an ak ne aW aC ag aT aN aF), (aw, kcI cI 2179 fw), (av, kcI cI 400 g612)]) [0, 1, 2] rfl, hD.sub (ws' := [(h, oX11 th aw ai ab ac hi re aP ta po en be de fa a5 sp av an ak ne aW aC ag aT aN aF), (aw, kcI cI 2179 fw), (av, kcI cI 400 g612)]) [0, 1, 2] (by decide) rfl, hS, lv_sub (l' := [(4, .int y610), (3, .int y611), (0, .ref h), (1, .int mm), (2, .int b)]) hl [0, 1, 2, 3, 4] rfl⟩
  · skip
    have k651 : Rg x614 1 1 := rg_q1 (eqI c650) (rg_any x614) (rg_lit (n := 1) (by decide)) (by decide)
    refine lv_iload hx hb dX11_costOf_15 (lv_at hl 0 rfl) ?_
    refine lv_aload_n hx hb dX11_costOf_17 rfl (lv_at hl 2 rfl) ?_
    refine va_get (D := D) (ci := 10) (v := .ref aw) (C := RX11) (T := TX11) (N := 26) hx hb hts iG_X11 hown hK hP 0 rfl rfl 1 (by decide) (hts _ w5_3) (fun _ h9 => h9) rfl dX11_costOf_18 ?_
    refine lv_sipush (v := 505) hx hb dX11_costOf_21 (by decide) ?_
    refine va_iald hx hb hK hP 1 0 rfl rfl (rg_in (rg_lit (n := 505) (by decide)) (by decide)) dX11_costOf_24 ?_
    refine lv_topi (fun x652 ex652 => ?_)
    have k653 : Rg x652 0 12 := wL_505 H_fw_L ex652
    refine lv_icmp_ge (tgt := 81) hx hb dX11_costOf_25 (by decide) (fun c654 => ?_) (fun c654 => ?_)
    · skip
      exact hJ81 () _ _ _ ⟨(kC_eq rfl (kC_eq rfl (kLet_eq (ke_ld ex614) (kif_t (eqI c650) (kLet_eq (ke_ld ex652) (kif_t (leI c654) rfl)))))), hP.sub (ws' := [(h, oX11 th aw ai ab ac hi re aP ta po en be de fa a5 sp av an ak ne aW aC ag aT aN aF), (aw, kcI cI 2179 fw), (av, kcI cI 400 g612)]) [0, 1, 2] rfl, hD.sub (ws' := [(h, oX11 th aw ai ab ac hi re aP ta po en be de fa a5 sp av an ak ne aW aC ag aT aN aF), (aw, kcI cI 2179 fw), (av, kcI cI 400 g612)]) [0, 1, 2] (by decide) rfl, hS, lv_sub (l' := [(4, .int y610), (3, .int y611), (0, .ref h), (1, .int mm), (2, .int b)]) hl [0, 1, 2, 3, 4] rfl⟩
    · skip
      have k655 : Rg y610 0 11 := rg_l1 (nleI c654) hy610 k653 (by decide)
      have k656 : Rg x652 1 12 := rg_l2 (nleI c654) hy610 k653 (by decide)
      refine lv_iload_n hx hb dX11_costOf_28 rfl (lv_at hl 1 rfl) ?_
      refine lv_aload_n hx hb dX11_costOf_29 rfl (lv_at hl 2 rfl) ?_
      refine va_get (D := D) (ci := 10) (v := .ref aw) (C := RX11) (T := TX11) (N := 26) hx hb hts iG_X11 hown hK hP 0 rfl rfl 1 (by decide) (hts _ w5_3) (fun _ h9 => h9) rfl dX11_costOf_30 ?_
      refine lv_sipush (v := 506) hx hb dX11_costOf_33 (by decide) ?_
      refine lv_iconst (v := 3) hx hb dX11_costOf_36 (by decide) ?_
      refine lv_iload hx hb dX11_costOf_37 (lv_at hl 0 rfl) ?_
      refine lv_imul hx hb dX11_costOf_39 ?_
      refine lv_topi (fun x657 ex657 => ?_)
      have tx657 : x657.toInt = 3 * y610.toInt := ti_mul ex657 (rg_lit (n := 3) (by decide)) k655 (by decide) (by decide) rfl
      have k658 : Rg x657 0 33 := rg_mul ex657 (rg_lit (n := 3) (by decide)) k655 (by decide)
      refine lv_iadd hx hb dX11_costOf_40 ?_
      refine lv_topi (fun x659 ex659 => ?_)
      have tx659 : x659.toInt = 506 + x657.toInt := ti_add ex659 (rg_lit (n := 506) (by decide)) k658 (by decide) (by decide) rfl
      have k660 : Rg x659 506 539 := rg_add ex659 (rg_lit (n := 506) (by decide)) k658 (by decide)
      refine va_iald hx hb hK hP 1 0 rfl rfl (rg_in k660 (by decide)) dX11_costOf_41 ?_
      refine lv_topi (fun x661 ex661 => ?_)
      refine k_join (hd := 73) (cells2 := 0) (slots2 := 0) (fun (u : Int32 × Int32 × (Nat → Int32)) => match u with | (z682, z683, g684) => [.int z682, .int z683]) (fun (u : Int32 × Int32 × (Nat → Int32)) (H : Heap) (locs : List Loc) (ls : Array Slot) => match u with | (z682, z683, g684) => (F_r_costOf_l1_s (gT fw) mm.toInt b.toInt (y610.toInt, y611.toInt, (gT g612)) = F_r_costOf_j3 y610.toInt z682.toInt z683.toInt (gT g684)) ∧ va_P D vwCl [(h, oX11 th aw ai ab ac hi re aP ta po en be de fa a5 sp av an ak ne aW aC ag aT aN aF), (aw, kcI cI 2179 fw), (av, kcI cI 400 g684)] H ∧ va_D A [(h, oX11 th aw ai ab ac hi re aP ta po en be de fa a5 sp av an ak ne aW aC ag aT aN aF), (aw, kcI cI 2179 fw), (av, kcI cI 400 g684)] ∧ va_S A s.heap H locs ∧ lv_has ls 5 [(4, .int y610), (3, .int y611), (0, .ref h), (1, .int mm), (2, .int b)]) (fun u H locs ls hI => ?_) (fun hJ73 => ?_)
      · skip
        clear hP hD hS hl
        obtain ⟨z682, z683, g684⟩ := u
        obtain ⟨hF3, hP, hD, hS, hl⟩ := hI
        have hP : va_P D vwCl [(h, oX11 th aw ai ab ac hi re aP ta po en be de fa a5 sp av an ak ne aW aC ag aT aN aF), (aw, kcI cI 2179 fw), (av, kcI cI 400 g684)] H := hP
        have hD : va_D A [(h, oX11 th aw ai ab ac hi re aP ta po en be de fa a5 sp av an ak ne aW aC ag aT aN aF), (aw, kcI cI 2179 fw), (av, kcI cI 400 g684)] := hD
        have hl : lv_has ls 5 [(4, .int y610), (3, .int y611), (0, .ref h), (1, .int mm), (2, .int b)] := hl
        show W _ _ _ _ _ _ _ _ _ _ _ _ _ _ _ (F0 m 73 ls [.int z682, .int z683])
        refine lv_iadd hx hb dX11_costOf_73 ?_
        refine lv_topi (fun x685 ex685 => ?_)
        refine lv_istore_n (lv' := [(3, .int x685), (4, .int y610), (0, .ref h), (1, .int mm), (2, .int b)]) hx hb dX11_costOf_74 rfl hl (by decide) rfl (fun ls hl => ?_)
        obtain ⟨x686, ex686⟩ : ∃ y : Int32, y = y610 + 1 := ⟨_, rfl⟩
        refine lv_iinc (v := x686) (lv' := [(4, .int x686), (3, .int x685), (0, .ref h), (1, .int mm), (2, .int b)]) hx hb dX11_costOf_75 hl (k := 1) rfl (by rw [ex686]; rfl) (by decide) rfl (fun ls hl => ?_)
        have k687 : Rg x686 1 12 := rg_add ex686 k655 (rg_lit (n := 1) (by decide)) (by decide)
        refine lv_goto (tgt := 5) hx hb dX11_costOf_78 (by decide) ?_
        exact ih613 (x686, x685, g684) _ _ _ (by show (12 - (x686).toInt).toNat < (12 - (y610).toInt).toNat; exact mu_up ex686 k655 k687 (by decide)) ⟨(hF1.trans (kIter_go (hF3.trans (kLet_eq (ke_wadd ex685) (kLet_eq (ti_add ex686 k655 (rg_lit (n := 1) (by decide)) (by decide) rfl rfl) rfl))))), (rg_w k687 (by decide)), hP.sub (ws' := [(h, oX11 th aw ai ab ac hi re aP ta po en be de fa a5 sp av an ak ne aW aC ag aT aN aF), (aw, kcI cI 2179 fw), (av, kcI cI 400 g684)]) [0, 1, 2] rfl, hD.sub (ws' := [(h, oX11 th aw ai ab ac hi re aP ta po en be de fa a5 sp av an ak ne aW aC ag aT aN aF), (aw, kcI cI 2179 fw), (av, kcI cI 400 g684)]) [0, 1, 2] (by decide) rfl, hS, lv_sub (l' := [(4, .int x686), (3, .int x685), (0, .ref h), (1, .int mm), (2, .int b)]) hl [0, 1, 2, 3, 4] rfl⟩
      refine k_join (hd := 72) (cells2 := 0) (slots2 := 0) (fun (u : Int32 × (Nat → Int32)) => match u with | (z688, g689) => [.int z688]) (fun (u : Int32 × (Nat → Int32)) (H : Heap) (locs : List Loc) (ls : Array Slot) => match u with | (z688, g689) => (F_r_costOf_l1_s (gT fw) mm.toInt b.toInt (y610.toInt, y611.toInt, (gT g612)) = F_r_costOf_j4 y610.toInt z688.toInt (gT g689)) ∧ va_P D vwCl [(h, oX11 th aw ai ab ac hi re aP ta po en be de fa a5 sp av an ak ne aW aC ag aT aN aF), (aw, kcI cI 2179 fw), (av, kcI cI 400 g689)] H ∧ va_D A [(h, oX11 th aw ai ab ac hi re aP ta po en be de fa a5 sp av an ak ne aW aC ag aT aN aF), (aw, kcI cI 2179 fw), (av, kcI cI 400 g689)] ∧ va_S A s.heap H locs ∧ lv_has ls 5 [(4, .int y610), (3, .int y611), (0, .ref h), (1, .int mm), (2, .int b)]) (fun u H locs ls hI => ?_) (fun hJ72 => ?_)
      · skip
        clear hP hD hS hl
        obtain ⟨z688, g689⟩ := u
        obtain ⟨hF4, hP, hD, hS, hl⟩ := hI
        have hP : va_P D vwCl [(h, oX11 th aw ai ab ac hi re aP ta po en be de fa a5 sp av an ak ne aW aC ag aT aN aF), (aw, kcI cI 2179 fw), (av, kcI cI 400 g689)] H := hP
        have hD : va_D A [(h, oX11 th aw ai ab ac hi re aP ta po en be de fa a5 sp av an ak ne aW aC ag aT aN aF), (aw, kcI cI 2179 fw), (av, kcI cI 400 g689)] := hD
        have hl : lv_has ls 5 [(4, .int y610), (3, .int y611), (0, .ref h), (1, .int mm), (2, .int b)] := hl
        show W _ _ _ _ _ _ _ _ _ _ _ _ _ _ _ (F0 m 72 ls [.int z688])
        refine lv_iconst (v := 0) hx hb dX11_costOf_72 (by decide) ?_
        exact hJ73 ((0 : Int32), z688, g689) _ _ _ ⟨(hF4.trans rfl), hP.sub (ws' := [(h, oX11 th aw ai ab ac hi re aP ta po en be de fa a5 sp av an ak ne aW aC ag aT aN aF), (aw, kcI cI 2179 fw), (av, kcI cI 400 g689)]) [0, 1, 2] rfl, hD.sub (ws' := [(h, oX11 th aw ai ab ac hi re aP ta po en be de fa a5 sp av an ak ne aW aC ag aT aN aF), (aw, kcI cI 2179 fw), (av, kcI cI 400 g689)]) [0, 1, 2] (by decide) rfl, hS, lv_sub (l' := [(4, .int y610), (3, .int y611), (0, .ref h), (1, .int mm), (2, .int b)]) hl [0, 1, 2, 3, 4] rfl⟩
      refine lv_if_lt (tgt := 72) hx hb dX11_costOf_42 (by decide) (fun c690 => ?_) (fun c690 => ?_)
      · skip
        have k691 : Rg x661 (-2147483648) (-1) := rg_l1 (ltI c690) (rg_any x661) (rg_lit (n := 0) (by decide)) (by decide)
        exact hJ72 (y611, g612) _ _ _ ⟨(kC_eq rfl (kC_eq rfl (kLet_eq (ke_ld ex614) (kif_t (eqI c650) (kLet_eq (ke_ld ex652) (kif_f (xF_le c654) (kLet_eq (ti_mul ex657 (rg_lit (n := 3) (by decide)) k655 (by decide) rfl rfl) (kLet_eq (ti_add ex659 (rg_lit (n := 506) (by decide)) k658 (by decide) rfl rfl) (kLet_eq (ke_ld ex661) (kif_t (ltI c690) rfl)))))))))), hP.sub (ws' := [(h, oX11 th aw ai ab ac hi re aP ta po en be de fa a5 sp av an ak ne aW aC ag aT aN aF), (aw, kcI cI 2179 fw), (av, kcI cI 400 g612)]) [0, 1, 2] rfl, hD.sub (ws' := [(h, oX11 th aw ai ab ac hi re aP ta po en be de fa a5 sp av an ak ne aW aC ag aT aN aF), (aw, kcI cI 2179 fw), (av, kcI cI 400 g612)]) [0, 1, 2] (by decide) rfl, hS, lv_sub (l' := [(4, .int y610), (3, .int y611), (0, .ref h), (1, .int mm), (2, .int b)]) hl [0, 1, 2, 3, 4] rfl⟩
      · skip
        have k692 : Rg x661 0 2147483647 := rg_e2 (nltI c690) (rg_lit (n := 0) (by decide)) (rg_any x661) (by decide)
        refine lv_aload_n hx hb dX11_costOf_45 rfl (lv_at hl 2 rfl) ?_
        refine lv_iload hx hb dX11_costOf_46 (lv_at hl 0 rfl) ?_
        refine lv_iload_n hx hb dX11_costOf_48 rfl (lv_at hl 3 rfl) ?_
        refine lv_iload_n hx hb dX11_costOf_49 rfl (lv_at hl 4 rfl) ?_
        refine kcalli (wc := [(h, oX11 th aw ai ab ac hi re aP ta po en be de fa a5 sp av an ak ne aW aC ag aT aN aF), (aw, kcI cI 2179 fw), (av, kcI cI 400 g612)]) (wr := []) hP hD hS hA [0, 1, 2] [] rfl rfl (by decide) (by decide) (by decide) (fun hPc hDc hFc => va_runV (As := [.int y610, .int mm, .int b]) (rest := [.int y611]) ⟨hx, hb, hml, hown, hts⟩ (r_holdsLine l D cI cJ cB cC h th aw ai ab ac hi re aP ta po en be de fa a5 sp av an ak ne aW aC ag aT aN aF fw g612 y610 mm b H.size H_mm H_b k655 H_fw_W H_fw_L (lt_505 ex652 (nleI c654))) (cwV 3 hts gX11_costOf_X11_holdsLine rfl rfl rfl ⟨rfl, hdX11_holdsLine⟩ ⟨Nat.le_of_ble_eq_true rfl, Nat.le_of_ble_eq_true rfl⟩) ⟨kBlind, va_recv hK hPc (ci := 10) (q0 := 0) rfl rfl, fun U hU hW => ⟨rfl, by rw [hU], hN.warm hW, hE.pass hS hFc hW hU, by rw [hU]; exact hPc, va_K.moved hW.alike hK, hDc⟩⟩ rfl rfl hl.1 rfl (lv_room (Nat.le_of_ble_eq_true rfl)) dX11_costOf_50 ⟨Nat.le_of_ble_eq_true rfl, Nat.le_of_ble_eq_true rfl⟩) (fun r693 u H locs hw hP hD hS => ?_)
        obtain ⟨g694, rfl⟩ : ∃ z, z = u := ⟨_, rfl⟩
        have hP : va_P D vwCl [(h, oX11 th aw ai ab ac hi re aP ta po en be de fa a5 sp av an ak ne aW aC ag aT aN aF), (aw, kcI cI 2179 fw), (av, kcI cI 400 g694)] H := hP
        have hD : va_D A [(h, oX11 th aw ai ab ac hi re aP ta po en be de fa a5 sp av an ak ne aW aC ag aT aN aF), (aw, kcI cI 2179 fw), (av, kcI cI 400 g694)] := hD
        obtain ⟨k695, k696⟩ := hw
        refine lv_if_eq (tgt := 72) hx hb dX11_costOf_53 (by decide) (fun c697 => ?_) (fun c697 => ?_)
        · skip
          have k698 : Rg r693 0 0 := rg_q1 (eqI c697) k695 (rg_lit (n := 0) (by decide)) (by decide)
          exact hJ72 (y611, g694) _ _ _ ⟨(kC_eq rfl (kC_eq rfl (kLet_eq (ke_ld ex614) (kif_t (eqI c650) (kLet_eq (ke_ld ex652) (kif_f (xF_le c654) (kLet_eq (ti_mul ex657 (rg_lit (n := 3) (by decide)) k655 (by decide) rfl rfl) (kLet_eq (ti_add ex659 (rg_lit (n := 506) (by decide)) k658 (by decide) rfl rfl) (kLet_eq (ke_ld ex661) (kif_f (xF_lt c690) (kC_eq k696 (kif_t (eqI c697) rfl)))))))))))), hP.sub (ws' := [(h, oX11 th aw ai ab ac hi re aP ta po en be de fa a5 sp av an ak ne aW aC ag aT aN aF), (aw, kcI cI 2179 fw), (av, kcI cI 400 g694)]) [0, 1, 2] rfl, hD.sub (ws' := [(h, oX11 th aw ai ab ac hi re aP ta po en be de fa a5 sp av an ak ne aW aC ag aT aN aF), (aw, kcI cI 2179 fw), (av, kcI cI 400 g694)]) [0, 1, 2] (by decide) rfl, hS, lv_sub (l' := [(4, .int y610), (3, .int y611), (0, .ref h), (1, .int mm), (2, .int b)]) hl [0, 1, 2, 3, 4] rfl⟩
        · skip
          have k699 : Rg r693 1 1 := rg_n1 (neI c697) k695 (rg_lit (n := 0) (by decide)) (by decide)
          refine lv_aload_n hx hb dX11_costOf_56 rfl (lv_at hl 2 rfl) ?_
          refine va_get (D := D) (ci := 10) (v := .ref aw) (C := RX11) (T := TX11) (N := 26) hx hb hts iG_X11 hown hK hP 0 rfl rfl 1 (by decide) (hts _ w5_3) (fun _ h9 => h9) rfl dX11_costOf_57 ?_
          refine lv_sipush (v := 506) hx hb dX11_costOf_60 (by decide) ?_
          refine lv_iconst (v := 3) hx hb dX11_costOf_63 (by decide) ?_
          refine lv_iload hx hb dX11_costOf_64 (lv_at hl 0 rfl) ?_
          refine lv_imul hx hb dX11_costOf_66 ?_
          refine lv_topi (fun x700 ex700 => ?_)
          have tx700 : x700.toInt = 3 * y610.toInt := ti_mul ex700 (rg_lit (n := 3) (by decide)) k655 (by decide) (by decide) rfl
          have k701 : Rg x700 0 33 := rg_mul ex700 (rg_lit (n := 3) (by decide)) k655 (by decide)
          refine lv_iadd hx hb dX11_costOf_67 ?_
          refine lv_topi (fun x702 ex702 => ?_)
          have tx702 : x702.toInt = 506 + x700.toInt := ti_add ex702 (rg_lit (n := 506) (by decide)) k701 (by decide) (by decide) rfl
          have k703 : Rg x702 506 539 := rg_add ex702 (rg_lit (n := 506) (by decide)) k701 (by decide)
          refine va_iald hx hb hK hP 1 0 rfl rfl (rg_in k703 (by decide)) dX11_costOf_68 ?_
          refine lv_topi (fun x704 ex704 => ?_)
          refine lv_goto (tgt := 73) hx hb dX11_costOf_69 (by decide) ?_
          exact hJ73 (x704, y611, g694) _ _ _ ⟨(kC_eq rfl (kC_eq rfl (kLet_eq (ke_ld ex614) (kif_t (eqI c650) (kLet_eq (ke_ld ex652) (kif_f (xF_le c654) (kLet_eq (ti_mul ex657 (rg_lit (n := 3) (by decide)) k655 (by decide) rfl rfl) (kLet_eq (ti_add ex659 (rg_lit (n := 506) (by decide)) k658 (by decide) rfl rfl) (kLet_eq (ke_ld ex661) (kif_f (xF_lt c690) (kC_eq k696 (kif_f (neI c697) (kLet_eq (ti_mul ex700 (rg_lit (n := 3) (by decide)) k655 (by decide) rfl rfl) (kLet_eq (ti_add ex702 (rg_lit (n := 506) (by decide)) k701 (by decide) rfl rfl) (kLet_eq (ke_ld ex704) rfl))))))))))))))), hP.sub (ws' := [(h, oX11 th aw ai ab ac hi re aP ta po en be de fa a5 sp av an ak ne aW aC ag aT aN aF), (aw, kcI cI 2179 fw), (av, kcI cI 400 g694)]) [0, 1, 2] rfl, hD.sub (ws' := [(h, oX11 th aw ai ab ac hi re aP ta po en be de fa a5 sp av an ak ne aW aC ag aT aN aF), (aw, kcI cI 2179 fw), (av, kcI cI 400 g694)]) [0, 1, 2] (by decide) rfl, hS, lv_sub (l' := [(4, .int y610), (3, .int y611), (0, .ref h), (1, .int mm), (2, .int b)]) hl [0, 1, 2, 3, 4] rfl⟩

def kwX11_barred : List Cond := .code yX11_barred cX11_barred 3 (some .boolean) :: kG
theorem hdX11_barred : yX11_barred.cls ≠ "java/lang/invoke/MethodHandle" ∧ yX11_barred.cls ≠ "java/lang/invoke/VarHandle" ∧ (parseMethodDescriptor yX11_barred.desc).map (fun d => d.parameters.length) = some 2 := by decide +kernel
theorem gX11_barred_X11_isBarred : GoodIn kG (wsV RX11 286 RX11 yX11_isBarred kwX11_isBarred) := gK w30_7 (gK w30_8 (gK w30_9 (gK w0_5 (gK w30_10 gGG))))
theorem gX11_barred_X11_noMan : GoodIn kG (wsV RX11 280 RX11 yX11_noMan kwX11_noMan) := gK w27_4 (gK w27_5 (gK w27_6 (gK w0_5 (gK w27_7 gGG))))
theorem gX11_barred_X11_noShirt : GoodIn kG (wsV RX11 283 RX11 yX11_noShirt kwX11_noShirt) := gK w28_12 (gK w28_13 (gK w28_14 (gK w0_5 (gK w28_15 gGG))))
theorem gX11_barred_X11_throwsIf : GoodIn kG (wsV RX11 258 RX11 yX11_throwsIf kwX11_throwsIf) := gK w23_6 (gK w23_7 (gK w23_8 (gK w0_5 (gK w23_9 gGG))))
theorem dX11_barred_0 : decode cX11_barred 0 = .ok (.aload_n 0, 1) := by decide +kernel
theorem dX11_barred_1 : decode cX11_barred 1 = .ok (.iconst 0, 1) := by decide +kernel
theorem dX11_barred_2 : decode cX11_barred 2 = .ok (.putfield 3, 3) := by decide +kernel
theorem dX11_barred_5 : decode cX11_barred 5 = .ok (.aload_n 0, 1) := by decide +kernel
theorem dX11_barred_6 : decode cX11_barred 6 = .ok (.aload_n 0, 1) := by decide +kernel
theorem dX11_barred_7 : decode cX11_barred 7 = .ok (.iload_n 1, 1) := by decide +kernel
theorem dX11_barred_8 : decode cX11_barred 8 = .ok (.invokevirtual 280, 3) := by decide +kernel
theorem dX11_barred_11 : decode cX11_barred 11 = .ok (.ifCond .ne 11, 3) := by decide +kernel
theorem dX11_barred_14 : decode cX11_barred 14 = .ok (.aload_n 0, 1) := by decide +kernel
theorem dX11_barred_15 : decode cX11_barred 15 = .ok (.iload_n 2, 1) := by decide +kernel
theorem dX11_barred_16 : decode cX11_barred 16 = .ok (.invokevirtual 283, 3) := by decide +kernel
theorem dX11_barred_19 : decode cX11_barred 19 = .ok (.ifCond .eq 7, 3) := by decide +kernel
theorem dX11_barred_22 : decode cX11_barred 22 = .ok (.iconst 1, 1) := by decide +kernel
theorem dX11_barred_23 : decode cX11_barred 23 = .ok (.goto 4, 3) := by decide +kernel
theorem dX11_barred_26 : decode cX11_barred 26 = .ok (.iconst 0, 1) := by decide +kernel
theorem dX11_barred_27 : decode cX11_barred 27 = .ok (.iconst 1, 1) := by decide +kernel
theorem dX11_barred_28 : decode cX11_barred 28 = .ok (.invokevirtual 258, 3) := by decide +kernel
theorem dX11_barred_31 : decode cX11_barred 31 = .ok (.ifCond .ne 16, 3) := by decide +kernel
theorem dX11_barred_34 : decode cX11_barred 34 = .ok (.aload_n 0, 1) := by decide +kernel
theorem dX11_barred_35 : decode cX11_barred 35 = .ok (.iload_n 1, 1) := by decide +kernel
theorem dX11_barred_36 : decode cX11_barred 36 = .ok (.iload_n 2, 1) := by decide +kernel
theorem dX11_barred_37 : decode cX11_barred 37 = .ok (.invokevirtual 286, 3) := by decide +kernel
theorem dX11_barred_40 : decode cX11_barred 40 = .ok (.ifCond .eq 7, 3) := by decide +kernel
theorem dX11_barred_43 : decode cX11_barred 43 = .ok (.iconst 1, 1) := by decide +kernel
theorem dX11_barred_44 : decode cX11_barred 44 = .ok (.goto 4, 3) := by decide +kernel
theorem dX11_barred_47 : decode cX11_barred 47 = .ok (.iconst 0, 1) := by decide +kernel
theorem dX11_barred_48 : decode cX11_barred 48 = .ok (.ireturn, 1) := by decide +kernel
set_option maxHeartbeats 4000000 in
set_option maxRecDepth 100000 in
/-- reference: barred -/
theorem r_barred (l : Launch) (D : va_G) (cI cJ cB cC : ClassId) (h : Nat) (th : Int32) (aw : Nat) (ai : Nat) (ab : Nat) (ac : Nat) (hi : Int32) (re : Int32) (aP : Nat) (ta : Int32) (po : Int32) (en : Int32) (be : Int32) (de : Int32) (fa : Int32) (a5 : Nat) (sp : Int32) (av : Nat) (an : Nat) (ak : Nat) (ne : Int32) (aW : Nat) (aC : Nat) (ag : Nat) (aT : Nat) (aN : Nat) (aF : Nat) (fw : Nat → Int32) (fv : Nat → Int32) (a1 : Int32) (b1 : Int32) (sz : Nat) (H_fw_W : wW fw) (H_fw_L : wL fw) : Met l yX11_barred kwX11_barred ({ frames := 6, cells := 0, slots := 0, locals := 144 } : Room) (kPre D (kT cI cJ cB cC) sz [(h, oX11 th aw ai ab ac hi re aP ta po en be de fa a5 sp av an ak ne aW aC ag aT aN aF), (aw, kcI cI 2179 fw), (av, kcI cI 400 fv)] [.ref h, .int a1, .int b1]) (va_Qi (fun (r : Int32) (uu : Int32 × (Nat → Int32)) => match uu with | (n0_, f1_) => Rg r 0 1 ∧ F_r_barred (gT fw) (gT fv) (a1 : Int32).toInt (b1 : Int32).toInt = ((r : Int32).toInt, (n0_ : Int32).toInt, (gT f1_))) (fun (uu : Int32 × (Nat → Int32)) (t : State) => match uu with | (n0_, f1_) => kB D (kT cI cJ cB cC) (va_A [(h, oX11 th aw ai ab ac hi re aP ta po en be de fa a5 sp av an ak ne aW aC ag aT aN aF), (aw, kcI cI 2179 fw), (av, kcI cI 400 fv)] sz) [(h, oX11 n0_ aw ai ab ac hi re aP ta po en be de fa a5 sp av an ak ne aW aC ag aT aN aF), (aw, kcI cI 2179 fw), (av, kcI cI 400 f1_)] t) (va_A [(h, oX11 th aw ai ab ac hi re aP ta po en be de fa a5 sp av an ak ne aW aC ag aT aN aF), (aw, kcI cI 2179 fw), (av, kcI cI 400 fv)] sz)) 0 0 (va_A [(h, oX11 th aw ai ab ac hi re aP ta po en be de fa a5 sp av an ak ne aW aC ag aT aN aF), (aw, kcI cI 2179 fw), (av, kcI cI 400 fv)] sz) := by
  refine Met.ofW (cc := cX11_barred) (maxL := 3) (ret := (some .boolean)) (by decide) rfl ?_
  intro p e s m args below meth c s₁ B hml hv
  obtain ⟨rfl, hsz, hN, hE, hP, hK, hD0⟩ := hv
  have hx := B.exec
  have hb := B.bytes
  have hr := B.returns
  have hts := fun (w : Cond) (h : w ∈ kG) => atoms_spec (ws := kwX11_barred) B.pre w (List.mem_cons_of_mem _ h)
  have hown : s.vm.findClass RX11 = some m.cls := findClass_of_methodNamed B.named
  subst hsz
  have hD := hD0.self (sz := s.heap.size)
  generalize hAe : va_A [(h, oX11 th aw ai ab ac hi re aP ta po en be de fa a5 sp av an ak ne aW aC ag aT aN aF), (aw, kcI cI 2179 fw), (av, kcI cI 400 fv)] s.heap.size = A at hD hE ⊢
  have hA : ∀ q : Nat, s.heap.size ≤ q → A q := fun q h => by rw [← hAe]; exact Or.inr h
  have hl := lv_entry ([.ref h, .int a1, .int b1]) (n := 3) (Nat.le_of_ble_eq_true rfl)
  rw [lg_entry_eq]
  generalize (lg_sl ([.ref h, .int a1, .int b1]) ++ List.replicate (3 - (lg_sl ([.ref h, .int a1, .int b1])).length) Slot.unset).toArray = ls at hl ⊢
  have hl : lv_has ls 3 [(0, .ref h), (1, .int a1), (2, .int b1)] := hl
  obtain ⟨H, hH0⟩ : ∃ H, H = s.heap := ⟨_, rfl⟩
  have hS : va_S A s.heap H [] := by rw [hH0]; exact va_S.rf
  have hP : va_P D vwCl [(h, oX11 th aw ai ab ac hi re aP ta po en be de fa a5 sp av an ak ne aW aC ag aT aN aF), (aw, kcI cI 2179 fw), (av, kcI cI 400 fv)] H := by rw [hH0]; exact hP
  refine kHeap hH0 ?_
  clear hH0
  refine lv_aload_n hx hb dX11_barred_0 rfl (lv_at hl 0 rfl) ?_
  refine lv_iconst (v := 0) hx hb dX11_barred_1 (by decide) ?_
  refine va_put (D := D) (ci := 10) (v := .int 0) (ty := .int) (C := RX11) (T := TX11) (N := 26) hx hb hts iG_X11 tyX11 tyX11_ok nmX11 hown hK hP hD hS 0 rfl rfl 0 (by decide) (hts _ w6_8) (fun _ h9 => h9) rfl (by decide +kernel) rfl rfl (Nat.le_of_ble_eq_true rfl) dX11_barred_2 (fun H locs hP hD hS => ?_)
  have hP : va_P D vwCl [(h, oX11 0 aw ai ab ac hi re aP ta po en be de fa a5 sp av an ak ne aW aC ag aT aN aF), (aw, kcI cI 2179 fw), (av, kcI cI 400 fv)] H := hP
  have hD : va_D A [(h, oX11 0 aw ai ab ac hi re aP ta po en be de fa a5 sp av an ak ne aW aC ag aT aN aF), (aw, kcI cI 2179 fw), (av, kcI cI 400 fv)] := hD
  refine lv_aload_n hx hb dX11_barred_5 rfl (lv_at hl 0 rfl) ?_
  refine lv_aload_n hx hb dX11_barred_6 rfl (lv_at hl 0 rfl) ?_
  refine lv_iload_n hx hb dX11_barred_7 rfl (lv_at hl 1 rfl) ?_
  refine kpurei (wc := [(h, oX11 0 aw ai ab ac hi re aP ta po en be de fa a5 sp av an ak ne aW aC ag aT aN aF), (aw, kcI cI 2179 fw)]) hP hD hS hA [0, 1] rfl (by decide) (fun hPc hDc hFc => va_runV (As := [.int a1]) (rest := [.ref h]) ⟨hx, hb, hml, hown, hts⟩ (r_noMan l D cI cJ cB cC h 0 aw ai ab ac hi re aP ta po en be de fa a5 sp av an ak ne aW aC ag aT aN aF fw a1 H.size H_fw_W) (cwV 1 hts gX11_barred_X11_noMan rfl rfl rfl ⟨rfl, hdX11_noMan⟩ ⟨Nat.le_of_ble_eq_true rfl, Nat.le_of_ble_eq_true rfl⟩) ⟨kBlind, va_recv hK hPc (ci := 10) (q0 := 0) rfl rfl, fun U hU hW => ⟨rfl, by rw [hU], hN.warm hW, hE.pass hS hFc hW hU, by rw [hU]; exact hPc, va_K.moved hW.alike hK, hDc⟩⟩ rfl rfl hl.1 rfl (lv_room (Nat.le_of_ble_eq_true rfl)) dX11_barred_8 ⟨Nat.le_of_ble_eq_true rfl, Nat.le_of_ble_eq_true rfl⟩) (fun r1 u H locs hw hP hS => ?_)
  obtain ⟨k2, hw⟩ := hw
  rcases hw with ⟨rfl, kc3_0, kc3_1⟩ | rfl
  · skip
    refine lv_if_ne (tgt := 22) hx hb dX11_barred_11 (by decide) (fun c10 => absurd (by decide) c10) (fun _ => ?_)
    refine lv_aload_n hx hb dX11_barred_14 rfl (lv_at hl 0 rfl) ?_
    refine lv_iload_n hx hb dX11_barred_15 rfl (lv_at hl 2 rfl) ?_
    refine kpurei (wc := [(h, oX11 0 aw ai ab ac hi re aP ta po en be de fa a5 sp av an ak ne aW aC ag aT aN aF), (aw, kcI cI 2179 fw)]) hP hD hS hA [0, 1] rfl (by decide) (fun hPc hDc hFc => va_runV (As := [.int b1]) (rest := [.ref h]) ⟨hx, hb, hml, hown, hts⟩ (r_noShirt l D cI cJ cB cC h 0 aw ai ab ac hi re aP ta po en be de fa a5 sp av an ak ne aW aC ag aT aN aF fw b1 H.size H_fw_W) (cwV 1 hts gX11_barred_X11_noShirt rfl rfl rfl ⟨rfl, hdX11_noShirt⟩ ⟨Nat.le_of_ble_eq_true rfl, Nat.le_of_ble_eq_true rfl⟩) ⟨kBlind, va_recv hK hPc (ci := 10) (q0 := 0) rfl rfl, fun U hU hW => ⟨rfl, by rw [hU], hN.warm hW, hE.pass hS hFc hW hU, by rw [hU]; exact hPc, va_K.moved hW.alike hK, hDc⟩⟩ rfl rfl hl.1 rfl (lv_room (Nat.le_of_ble_eq_true rfl)) dX11_barred_16 ⟨Nat.le_of_ble_eq_true rfl, Nat.le_of_ble_eq_true rfl⟩) (fun r11 u H locs hw hP hS => ?_)
    obtain ⟨k12, hw⟩ := hw
    rcases hw with ⟨rfl, kc13_0, kc13_1⟩ | rfl
    · skip
      refine lv_if_eq (tgt := 26) hx hb dX11_barred_19 (by decide) (fun _ => ?_) (fun c14 => absurd (by decide) c14)
      refine lv_iconst (v := 0) hx hb dX11_barred_26 (by decide) ?_
      refine lv_iconst (v := 1) hx hb dX11_barred_27 (by decide) ?_
      refine kpurei (wc := [(h, oX11 0 aw ai ab ac hi re aP ta po en be de fa a5 sp av an ak ne aW aC ag aT aN aF)]) hP hD hS hA [0] rfl (by decide) (fun hPc hDc hFc => va_runV (As := [.int 0, .int 1]) (rest := []) ⟨hx, hb, hml, hown, hts⟩ (r_throwsIf0_1 l D cI cJ cB cC h 0 aw ai ab ac hi re aP ta po en be de fa a5 sp av an ak ne aW aC ag aT aN aF 1 H.size) (cwV 2 hts gX11_barred_X11_throwsIf rfl rfl rfl ⟨rfl, hdX11_throwsIf⟩ ⟨Nat.le_of_ble_eq_true rfl, Nat.le_of_ble_eq_true rfl⟩) ⟨kBlind, va_recv hK hPc (ci := 10) (q0 := 0) rfl rfl, fun U hU hW => ⟨rfl, by rw [hU], hN.warm hW, hE.pass hS hFc hW hU, by rw [hU]; exact hPc, va_K.moved hW.alike hK, hDc⟩⟩ rfl rfl hl.1 rfl (lv_room (Nat.le_of_ble_eq_true rfl)) dX11_barred_28 ⟨Nat.le_of_ble_eq_true rfl, Nat.le_of_ble_eq_true rfl⟩) (fun r15 u H locs hw hP hS => ?_)
      obtain ⟨k16, k17⟩ := hw
      refine lv_if_ne (tgt := 47) hx hb dX11_barred_31 (by decide) (fun c26 => absurd (rg_eq k16 (rg_lit (n := 0) (by decide)) (by decide)) c26) (fun _ => ?_)
      refine lv_aload_n hx hb dX11_barred_34 rfl (lv_at hl 0 rfl) ?_
      refine lv_iload_n hx hb dX11_barred_35 rfl (lv_at hl 1 rfl) ?_
      refine lv_iload_n hx hb dX11_barred_36 rfl (lv_at hl 2 rfl) ?_
      refine kcalli (wc := [(h, oX11 0 aw ai ab ac hi re aP ta po en be de fa a5 sp av an ak ne aW aC ag aT aN aF), (aw, kcI cI 2179 fw), (av, kcI cI 400 fv)]) (wr := []) hP hD hS hA [0, 1, 2] [] rfl rfl (by decide) (by decide) (by decide) (fun hPc hDc hFc => va_runV (As := [.int a1, .int b1]) (rest := []) ⟨hx, hb, hml, hown, hts⟩ (r_isBarred l D cI cJ cB cC h 0 aw ai ab ac hi re aP ta po en be de fa a5 sp av an ak ne aW aC ag aT aN aF fw fv a1 b1 H.size kc3_0 kc13_0 H_fw_W H_fw_L) (cwV 2 hts gX11_barred_X11_isBarred rfl rfl rfl ⟨rfl, hdX11_isBarred⟩ ⟨Nat.le_of_ble_eq_true rfl, Nat.le_of_ble_eq_true rfl⟩) ⟨kBlind, va_recv hK hPc (ci := 10) (q0 := 0) rfl rfl, fun U hU hW => ⟨rfl, by rw [hU], hN.warm hW, hE.pass hS hFc hW hU, by rw [hU]; exact hPc, va_K.moved hW.alike hK, hDc⟩⟩ rfl rfl hl.1 rfl (lv_room (Nat.le_of_ble_eq_true rfl)) dX11_barred_37 ⟨Nat.le_of_ble_eq_true rfl, Nat.le_of_ble_eq_true rfl⟩) (fun r27 u H locs hw hP hD hS => ?_)
      obtain ⟨g28, rfl⟩ : ∃ z, z = u := ⟨_, rfl⟩
      have hP : va_P D vwCl [(h, oX11 0 aw ai ab ac hi re aP ta po en be de fa a5 sp av an ak ne aW aC ag aT aN aF), (aw, kcI cI 2179 fw), (av, kcI cI 400 g28)] H := hP
      have hD : va_D A [(h, oX11 0 aw ai ab ac hi re aP ta po en be de fa a5 sp av an ak ne aW aC ag aT aN aF), (aw, kcI cI 2179 fw), (av, kcI cI 400 g28)] := hD
      obtain ⟨k29, k30⟩ := hw
      refine lv_if_eq (tgt := 47) hx hb dX11_barred_40 (by decide) (fun c31 => ?_) (fun c31 => ?_)
      · skip
        have k32 : Rg r27 0 0 := rg_q1 (eqI c31) k29 (rg_lit (n := 0) (by decide)) (by decide)
        refine lv_iconst (v := 0) hx hb dX11_barred_47 (by decide) ?_
        have hP9 := hP.sub (ws' := [(h, oX11 0 aw ai ab ac hi re aP ta po en be de fa a5 sp av an ak ne aW aC ag aT aN aF), (aw, kcI cI 2179 fw), (av, kcI cI 400 g28)]) [0, 1, 2] rfl
        have hD9 := hD.sub (ws' := [(h, oX11 0 aw ai ab ac hi re aP ta po en be de fa a5 sp av an ak ne aW aC ag aT aN aF), (aw, kcI cI 2179 fw), (av, kcI cI 400 g28)]) [0, 1, 2] (by decide) rfl
        exact W.zret (v := 0) hx hb hr (by decide) (fun t ht hW => ⟨⟨0, ((0 : Int32), g28), rfl, ⟨(rg_w (rg_lit (n := 0) (by decide)) (by decide)), (kLet_eq (k2).symm (kif_t rfl (kLet_eq (k12).symm (kif_t rfl (kLet_eq (k17).symm (kC_eq k30 (kif_t (eqI c31) rfl)))))))⟩, by rw [ht]; exact hP9, va_K.moved hW.alike hK, hD9⟩, hS.F ht⟩) hS.2.2 dX11_barred_48
      · skip
        have k33 : Rg r27 1 1 := rg_n1 (neI c31) k29 (rg_lit (n := 0) (by decide)) (by decide)
        refine lv_iconst (v := 1) hx hb dX11_barred_43 (by decide) ?_
        refine lv_goto (tgt := 48) hx hb dX11_barred_44 (by decide) ?_
        have hP9 := hP.sub (ws' := [(h, oX11 0 aw ai ab ac hi re aP ta po en be de fa a5 sp av an ak ne aW aC ag aT aN aF), (aw, kcI cI 2179 fw), (av, kcI cI 400 g28)]) [0, 1, 2] rfl
        have hD9 := hD.sub (ws' := [(h, oX11 0 aw ai ab ac hi re aP ta po en be de fa a5 sp av an ak ne aW aC ag aT aN aF), (aw, kcI cI 2179 fw), (av, kcI cI 400 g28)]) [0, 1, 2] (by decide) rfl
        exact W.zret (v := 1) hx hb hr (by decide) (fun t ht hW => ⟨⟨1, ((0 : Int32), g28), rfl, ⟨(rg_w (rg_lit (n := 1) (by decide)) (by decide)), (kLet_eq (k2).symm (kif_t rfl (kLet_eq (k12).symm (kif_t rfl (kLet_eq (k17).symm (kC_eq k30 (kif_f (neI c31) rfl)))))))⟩, by rw [ht]; exact hP9, va_K.moved hW.alike hK, hD9⟩, hS.F ht⟩) hS.2.2 dX11_barred_48
    · skip
      refine lv_if_eq (tgt := 26) hx hb dX11_barred_19 (by decide) (fun c34 => absurd c34 (by decide)) (fun _ => ?_)
      refine lv_iconst (v := 1) hx hb dX11_barred_22 (by decide) ?_
      refine lv_goto (tgt := 27) hx hb dX11_barred_23 (by decide) ?_
      refine lv_iconst (v := 1) hx hb dX11_barred_27 (by decide) ?_
      refine kcalli (wc := [(h, oX11 0 aw ai ab ac hi re aP ta po en be de fa a5 sp av an ak ne aW aC ag aT aN aF)]) (wr := [(aw, kcI cI 2179 fw), (av, kcI cI 400 fv)]) hP hD hS hA [0] [1, 2] rfl rfl (by decide) (by decide) (by decide) (fun hPc hDc hFc => va_runV (As := [.int 1, .int 1]) (rest := []) ⟨hx, hb, hml, hown, hts⟩ (r_throwsIf1_1 l D cI cJ cB cC h 0 aw ai ab ac hi re aP ta po en be de fa a5 sp av an ak ne aW aC ag aT aN aF 1 H.size) (cwV 2 hts gX11_barred_X11_throwsIf rfl rfl rfl ⟨rfl, hdX11_throwsIf⟩ ⟨Nat.le_of_ble_eq_true rfl, Nat.le_of_ble_eq_true rfl⟩) ⟨kBlind, va_recv hK hPc (ci := 10) (q0 := 0) rfl rfl, fun U hU hW => ⟨rfl, by rw [hU], hN.warm hW, hE.pass hS hFc hW hU, by rw [hU]; exact hPc, va_K.moved hW.alike hK, hDc⟩⟩ rfl rfl hl.1 rfl (lv_room (Nat.le_of_ble_eq_true rfl)) dX11_barred_28 ⟨Nat.le_of_ble_eq_true rfl, Nat.le_of_ble_eq_true rfl⟩) (fun r35 u H locs hw hP hD hS => ?_)
      obtain ⟨x36, rfl⟩ : ∃ z, z = u := ⟨_, rfl⟩
      have hP : va_P D vwCl [(aw, kcI cI 2179 fw), (av, kcI cI 400 fv), (h, oX11 x36 aw ai ab ac hi re aP ta po en be de fa a5 sp av an ak ne aW aC ag aT aN aF)] H := hP
      have hD : va_D A [(aw, kcI cI 2179 fw), (av, kcI cI 400 fv), (h, oX11 x36 aw ai ab ac hi re aP ta po en be de fa a5 sp av an ak ne aW aC ag aT aN aF)] := hD
      obtain ⟨k37, k38⟩ := hw
      refine lv_if_ne (tgt := 47) hx hb dX11_barred_31 (by decide) (fun _ => ?_) (fun c40 => absurd c40 (rg_neq k37 (rg_lit (n := 0) (by decide)) (by decide)))
      refine lv_iconst (v := 0) hx hb dX11_barred_47 (by decide) ?_
      have hP9 := hP.sub (ws' := [(h, oX11 x36 aw ai ab ac hi re aP ta po en be de fa a5 sp av an ak ne aW aC ag aT aN aF), (aw, kcI cI 2179 fw), (av, kcI cI 400 fv)]) [2, 0, 1] rfl
      have hD9 := hD.sub (ws' := [(h, oX11 x36 aw ai ab ac hi re aP ta po en be de fa a5 sp av an ak ne aW aC ag aT aN aF), (aw, kcI cI 2179 fw), (av, kcI cI 400 fv)]) [2, 0, 1] (by decide) rfl
      exact W.zret (v := 0) hx hb hr (by decide) (fun t ht hW => ⟨⟨0, (x36, fv), rfl, ⟨(rg_w (rg_lit (n := 0) (by decide)) (by decide)), (kLet_eq (k2).symm (kif_t rfl (kLet_eq (k12).symm (kif_f (by decide) (kC_eq k38 rfl)))))⟩, by rw [ht]; exact hP9, va_K.moved hW.alike hK, hD9⟩, hS.F ht⟩) hS.2.2 dX11_barred_48
  · skip
    refine lv_if_ne (tgt := 22) hx hb dX11_barred_11 (by decide) (fun _ => ?_) (fun c42 => absurd c42 (by decide))
    refine lv_iconst (v := 1) hx hb dX11_barred_22 (by decide) ?_
    refine lv_goto (tgt := 27) hx hb dX11_barred_23 (by decide) ?_
    refine lv_iconst (v := 1) hx hb dX11_barred_27 (by decide) ?_
    refine kcalli (wc := [(h, oX11 0 aw ai ab ac hi re aP ta po en be de fa a5 sp av an ak ne aW aC ag aT aN aF)]) (wr := [(aw, kcI cI 2179 fw), (av, kcI cI 400 fv)]) hP hD hS hA [0] [1, 2] rfl rfl (by decide) (by decide) (by decide) (fun hPc hDc hFc => va_runV (As := [.int 1, .int 1]) (rest := []) ⟨hx, hb, hml, hown, hts⟩ (r_throwsIf1_1 l D cI cJ cB cC h 0 aw ai ab ac hi re aP ta po en be de fa a5 sp av an ak ne aW aC ag aT aN aF 1 H.size) (cwV 2 hts gX11_barred_X11_throwsIf rfl rfl rfl ⟨rfl, hdX11_throwsIf⟩ ⟨Nat.le_of_ble_eq_true rfl, Nat.le_of_ble_eq_true rfl⟩) ⟨kBlind, va_recv hK hPc (ci := 10) (q0 := 0) rfl rfl, fun U hU hW => ⟨rfl, by rw [hU], hN.warm hW, hE.pass hS hFc hW hU, by rw [hU]; exact hPc, va_K.moved hW.alike hK, hDc⟩⟩ rfl rfl hl.1 rfl (lv_room (Nat.le_of_ble_eq_true rfl)) dX11_barred_28 ⟨Nat.le_of_ble_eq_true rfl, Nat.le_of_ble_eq_true rfl⟩) (fun r43 u H locs hw hP hD hS => ?_)
    obtain ⟨x44, rfl⟩ : ∃ z, z = u := ⟨_, rfl⟩
    have hP : va_P D vwCl [(aw, kcI cI 2179 fw), (av, kcI cI 400 fv), (h, oX11 x44 aw ai ab ac hi re aP ta po en be de fa a5 sp av an ak ne aW aC ag aT aN aF)] H := hP
    have hD : va_D A [(aw, kcI cI 2179 fw), (av, kcI cI 400 fv), (h, oX11 x44 aw ai ab ac hi re aP ta po en be de fa a5 sp av an ak ne aW aC ag aT aN aF)] := hD
    obtain ⟨k45, k46⟩ := hw
    refine lv_if_ne (tgt := 47) hx hb dX11_barred_31 (by decide) (fun _ => ?_) (fun c48 => absurd c48 (rg_neq k45 (rg_lit (n := 0) (by decide)) (by decide)))
    refine lv_iconst (v := 0) hx hb dX11_barred_47 (by decide) ?_
    have hP9 := hP.sub (ws' := [(h, oX11 x44 aw ai ab ac hi re aP ta po en be de fa a5 sp av an ak ne aW aC ag aT aN aF), (aw, kcI cI 2179 fw), (av, kcI cI 400 fv)]) [2, 0, 1] rfl
    have hD9 := hD.sub (ws' := [(h, oX11 x44 aw ai ab ac hi re aP ta po en be de fa a5 sp av an ak ne aW aC ag aT aN aF), (aw, kcI cI 2179 fw), (av, kcI cI 400 fv)]) [2, 0, 1] (by decide) rfl
    exact W.zret (v := 0) hx hb hr (by decide) (fun t ht hW => ⟨⟨0, (x44, fv), rfl, ⟨(rg_w (rg_lit (n := 0) (by decide)) (by decide)), (kLet_eq (k2).symm (kif_f (by decide) (kC_eq k46 rfl)))⟩, by rw [ht]; exact hP9, va_K.moved hW.alike hK, hD9⟩, hS.F ht⟩) hS.2.2 dX11_barred_48

def kwX11_cost : List Cond := .code yX11_cost cX11_cost 3 (some .int) :: kG
theorem hdX11_cost : yX11_cost.cls ≠ "java/lang/invoke/MethodHandle" ∧ yX11_cost.cls ≠ "java/lang/invoke/VarHandle" ∧ (parseMethodDescriptor yX11_cost.desc).map (fun d => d.parameters.length) = some 2 := by decide +kernel
theorem gX11_cost_X11_costOf : GoodIn kG (wsV RX11 289 RX11 yX11_costOf kwX11_costOf) := gK w31_16 (gK w31_17 (gK w31_18 (gK w0_5 (gK w31_19 gGG))))
theorem gX11_cost_X11_noMan : GoodIn kG (wsV RX11 280 RX11 yX11_noMan kwX11_noMan) := gK w27_4 (gK w27_5 (gK w27_6 (gK w0_5 (gK w27_7 gGG))))
theorem gX11_cost_X11_noShirt : GoodIn kG (wsV RX11 283 RX11 yX11_noShirt kwX11_noShirt) := gK w28_12 (gK w28_13 (gK w28_14 (gK w0_5 (gK w28_15 gGG))))
theorem gX11_cost_X11_throwsIf : GoodIn kG (wsV RX11 258 RX11 yX11_throwsIf kwX11_throwsIf) := gK w23_6 (gK w23_7 (gK w23_8 (gK w0_5 (gK w23_9 gGG))))
theorem dX11_cost_0 : decode cX11_cost 0 = .ok (.aload_n 0, 1) := by decide +kernel
theorem dX11_cost_1 : decode cX11_cost 1 = .ok (.iconst 0, 1) := by decide +kernel
theorem dX11_cost_2 : decode cX11_cost 2 = .ok (.putfield 3, 3) := by decide +kernel
theorem dX11_cost_5 : decode cX11_cost 5 = .ok (.aload_n 0, 1) := by decide +kernel
theorem dX11_cost_6 : decode cX11_cost 6 = .ok (.aload_n 0, 1) := by decide +kernel
theorem dX11_cost_7 : decode cX11_cost 7 = .ok (.iload_n 1, 1) := by decide +kernel
theorem dX11_cost_8 : decode cX11_cost 8 = .ok (.invokevirtual 280, 3) := by decide +kernel
theorem dX11_cost_11 : decode cX11_cost 11 = .ok (.ifCond .ne 11, 3) := by decide +kernel
theorem dX11_cost_14 : decode cX11_cost 14 = .ok (.aload_n 0, 1) := by decide +kernel
theorem dX11_cost_15 : decode cX11_cost 15 = .ok (.iload_n 2, 1) := by decide +kernel
theorem dX11_cost_16 : decode cX11_cost 16 = .ok (.invokevirtual 283, 3) := by decide +kernel
theorem dX11_cost_19 : decode cX11_cost 19 = .ok (.ifCond .eq 7, 3) := by decide +kernel
theorem dX11_cost_22 : decode cX11_cost 22 = .ok (.iconst 1, 1) := by decide +kernel
theorem dX11_cost_23 : decode cX11_cost 23 = .ok (.goto 4, 3) := by decide +kernel
theorem dX11_cost_26 : decode cX11_cost 26 = .ok (.iconst 0, 1) := by decide +kernel
theorem dX11_cost_27 : decode cX11_cost 27 = .ok (.iconst 1, 1) := by decide +kernel
theorem dX11_cost_28 : decode cX11_cost 28 = .ok (.invokevirtual 258, 3) := by decide +kernel
theorem dX11_cost_31 : decode cX11_cost 31 = .ok (.ifCond .eq 7, 3) := by decide +kernel
theorem dX11_cost_34 : decode cX11_cost 34 = .ok (.iconst 0, 1) := by decide +kernel
theorem dX11_cost_35 : decode cX11_cost 35 = .ok (.goto 9, 3) := by decide +kernel
theorem dX11_cost_38 : decode cX11_cost 38 = .ok (.aload_n 0, 1) := by decide +kernel
theorem dX11_cost_39 : decode cX11_cost 39 = .ok (.iload_n 1, 1) := by decide +kernel
theorem dX11_cost_40 : decode cX11_cost 40 = .ok (.iload_n 2, 1) := by decide +kernel
theorem dX11_cost_41 : decode cX11_cost 41 = .ok (.invokevirtual 289, 3) := by decide +kernel
theorem dX11_cost_44 : decode cX11_cost 44 = .ok (.ireturn, 1) := by decide +kernel
set_option maxHeartbeats 4000000 in
set_option maxRecDepth 100000 in
/-- reference: cost -/
theorem r_cost (l : Launch) (D : va_G) (cI cJ cB cC : ClassId) (h : Nat) (th : Int32) (aw : Nat) (ai : Nat) (ab : Nat) (ac : Nat) (hi : Int32) (re : Int32) (aP : Nat) (ta : Int32) (po : Int32) (en : Int32) (be : Int32) (de : Int32) (fa : Int32) (a5 : Nat) (sp : Int32) (av : Nat) (an : Nat) (ak : Nat) (ne : Int32) (aW : Nat) (aC : Nat) (ag : Nat) (aT : Nat) (aN : Nat) (aF : Nat) (fw : Nat → Int32) (fv : Nat → Int32) (a1 : Int32) (b1 : Int32) (sz : Nat) (H_fw_W : wW fw) (H_fw_L : wL fw) : Met l yX11_cost kwX11_cost ({ frames := 6, cells := 0, slots := 0, locals := 144 } : Room) (kPre D (kT cI cJ cB cC) sz [(h, oX11 th aw ai ab ac hi re aP ta po en be de fa a5 sp av an ak ne aW aC ag aT aN aF), (aw, kcI cI 2179 fw), (av, kcI cI 400 fv)] [.ref h, .int a1, .int b1]) (va_Qi (fun (r : Int32) (uu : Int32 × (Nat → Int32)) => match uu with | (n0_, f1_) => F_r_cost (gT fw) (gT fv) (a1 : Int32).toInt (b1 : Int32).toInt = ((r : Int32).toInt, (n0_ : Int32).toInt, (gT f1_))) (fun (uu : Int32 × (Nat → Int32)) (t : State) => match uu with | (n0_, f1_) => kB D (kT cI cJ cB cC) (va_A [(h, oX11 th aw ai ab ac hi re aP ta po en be de fa a5 sp av an ak ne aW aC ag aT aN aF), (aw, kcI cI 2179 fw), (av, kcI cI 400 fv)] sz) [(h, oX11 n0_ aw ai ab ac hi re aP ta po en be de fa a5 sp av an ak ne aW aC ag aT aN aF), (aw, kcI cI 2179 fw), (av, kcI cI 400 f1_)] t) (va_A [(h, oX11 th aw ai ab ac hi re aP ta po en be de fa a5 sp av an ak ne aW aC ag aT aN aF), (aw, kcI cI 2179 fw), (av, kcI cI 400 fv)] sz)) 0 0 (va_A [(h, oX11 th aw ai ab ac hi re aP ta po en be de fa a5 sp av an ak ne aW aC ag aT aN aF), (aw, kcI cI 2179 fw), (av, kcI cI 400 fv)] sz) := by
  refine Met.ofW (cc := cX11_cost) (maxL := 3) (ret := (some .int)) (by decide) rfl ?_
  intro p e s m args below meth c s₁ B hml hv
  obtain ⟨rfl, hsz, hN, hE, hP, hK, hD0⟩ := hv
  have hx := B.exec
  have hb := B.bytes
  have hr := B.returns
  have hts := fun (w : Cond) (h : w ∈ kG) => atoms_spec (ws := kwX11_cost) B.pre w (List.mem_cons_of_mem _ h)
  have hown : s.vm.findClass RX11 = some m.cls := findClass_of_methodNamed B.named
  subst hsz
  have hD := hD0.self (sz := s.heap.size)
  generalize hAe : va_A [(h, oX11 th aw ai ab ac hi re aP ta po en be de fa a5 sp av an ak ne aW aC ag aT aN aF), (aw, kcI cI 2179 fw), (av, kcI cI 400 fv)] s.heap.size = A at hD hE ⊢
  have hA : ∀ q : Nat, s.heap.size ≤ q → A q := fun q h => by rw [← hAe]; exact Or.inr h
  have hl := lv_entry ([.ref h, .int a1, .int b1]) (n := 3) (Nat.le_of_ble_eq_true rfl)
  rw [lg_entry_eq]
  generalize (lg_sl ([.ref h, .int a1, .int b1]) ++ List.replicate (3 - (lg_sl ([.ref h, .int a1, .int b1])).length) Slot.unset).toArray = ls at hl ⊢
  have hl : lv_has ls 3 [(0, .ref h), (1, .int a1), (2, .int b1)] := hl
  obtain ⟨H, hH0⟩ : ∃ H, H = s.heap := ⟨_, rfl⟩
  have hS : va_S A s.heap H [] := by rw [hH0]; exact va_S.rf
  have hP : va_P D vwCl [(h, oX11 th aw ai ab ac hi re aP ta po en be de fa a5 sp av an ak ne aW aC ag aT aN aF), (aw, kcI cI 2179 fw), (av, kcI cI 400 fv)] H := by rw [hH0]; exact hP
  refine kHeap hH0 ?_
  clear hH0
  refine lv_aload_n hx hb dX11_cost_0 rfl (lv_at hl 0 rfl) ?_
  refine lv_iconst (v := 0) hx hb dX11_cost_1 (by decide) ?_
  refine va_put (D := D) (ci := 10) (v := .int 0) (ty := .int) (C := RX11) (T := TX11) (N := 26) hx hb hts iG_X11 tyX11 tyX11_ok nmX11 hown hK hP hD hS 0 rfl rfl 0 (by decide) (hts _ w6_8) (fun _ h9 => h9) rfl (by decide +kernel) rfl rfl (Nat.le_of_ble_eq_true rfl) dX11_cost_2 (fun H locs hP hD hS => ?_)
  have hP : va_P D vwCl [(h, oX11 0 aw ai ab ac hi re aP ta po en be de fa a5 sp av an ak ne aW aC ag aT aN aF), (aw, kcI cI 2179 fw), (av, kcI cI 400 fv)] H := hP
  have hD : va_D A [(h, oX11 0 aw ai ab ac hi re aP ta po en be de fa a5 sp av an ak ne aW aC ag aT aN aF), (aw, kcI cI 2179 fw), (av, kcI cI 400 fv)] := hD
  refine lv_aload_n hx hb dX11_cost_5 rfl (lv_at hl 0 rfl) ?_
  refine lv_aload_n hx hb dX11_cost_6 rfl (lv_at hl 0 rfl) ?_
  refine lv_iload_n hx hb dX11_cost_7 rfl (lv_at hl 1 rfl) ?_
  refine kpurei (wc := [(h, oX11 0 aw ai ab ac hi re aP ta po en be de fa a5 sp av an ak ne aW aC ag aT aN aF), (aw, kcI cI 2179 fw)]) hP hD hS hA [0, 1] rfl (by decide) (fun hPc hDc hFc => va_runV (As := [.int a1]) (rest := [.ref h]) ⟨hx, hb, hml, hown, hts⟩ (r_noMan l D cI cJ cB cC h 0 aw ai ab ac hi re aP ta po en be de fa a5 sp av an ak ne aW aC ag aT aN aF fw a1 H.size H_fw_W) (cwV 1 hts gX11_cost_X11_noMan rfl rfl rfl ⟨rfl, hdX11_noMan⟩ ⟨Nat.le_of_ble_eq_true rfl, Nat.le_of_ble_eq_true rfl⟩) ⟨kBlind, va_recv hK hPc (ci := 10) (q0 := 0) rfl rfl, fun U hU hW => ⟨rfl, by rw [hU], hN.warm hW, hE.pass hS hFc hW hU, by rw [hU]; exact hPc, va_K.moved hW.alike hK, hDc⟩⟩ rfl rfl hl.1 rfl (lv_room (Nat.le_of_ble_eq_true rfl)) dX11_cost_8 ⟨Nat.le_of_ble_eq_true rfl, Nat.le_of_ble_eq_true rfl⟩) (fun r1 u H locs hw hP hS => ?_)
  obtain ⟨k2, hw⟩ := hw
  rcases hw with ⟨rfl, kc3_0, kc3_1⟩ | rfl
  · skip
    refine lv_if_ne (tgt := 22) hx hb dX11_cost_11 (by decide) (fun c10 => absurd (by decide) c10) (fun _ => ?_)
    refine lv_aload_n hx hb dX11_cost_14 rfl (lv_at hl 0 rfl) ?_
    refine lv_iload_n hx hb dX11_cost_15 rfl (lv_at hl 2 rfl) ?_
    refine kpurei (wc := [(h, oX11 0 aw ai ab ac hi re aP ta po en be de fa a5 sp av an ak ne aW aC ag aT aN aF), (aw, kcI cI 2179 fw)]) hP hD hS hA [0, 1] rfl (by decide) (fun hPc hDc hFc => va_runV (As := [.int b1]) (rest := [.ref h]) ⟨hx, hb, hml, hown, hts⟩ (r_noShirt l D cI cJ cB cC h 0 aw ai ab ac hi re aP ta po en be de fa a5 sp av an ak ne aW aC ag aT aN aF fw b1 H.size H_fw_W) (cwV 1 hts gX11_cost_X11_noShirt rfl rfl rfl ⟨rfl, hdX11_noShirt⟩ ⟨Nat.le_of_ble_eq_true rfl, Nat.le_of_ble_eq_true rfl⟩) ⟨kBlind, va_recv hK hPc (ci := 10) (q0 := 0) rfl rfl, fun U hU hW => ⟨rfl, by rw [hU], hN.warm hW, hE.pass hS hFc hW hU, by rw [hU]; exact hPc, va_K.moved hW.alike hK, hDc⟩⟩ rfl rfl hl.1 rfl (lv_room (Nat.le_of_ble_eq_true rfl)) dX11_cost_16 ⟨Nat.le_of_ble_eq_true rfl, Nat.le_of_ble_eq_true rfl⟩) (fun r11 u H locs hw hP hS => ?_)
    obtain ⟨k12, hw⟩ := hw
    rcases hw with ⟨rfl, kc13_0, kc13_1⟩ | rfl
    · skip
      refine lv_if_eq (tgt := 26) hx hb dX11_cost_19 (by decide) (fun _ => ?_) (fun c14 => absurd (by decide) c14)
      refine lv_iconst (v := 0) hx hb dX11_cost_26 (by decide) ?_
      refine lv_iconst (v := 1) hx hb dX11_cost_27 (by decide) ?_
      refine kpurei (wc := [(h, oX11 0 aw ai ab ac hi re aP ta po en be de fa a5 sp av an ak ne aW aC ag aT aN aF)]) hP hD hS hA [0] rfl (by decide) (fun hPc hDc hFc => va_runV (As := [.int 0, .int 1]) (rest := []) ⟨hx, hb, hml, hown, hts⟩ (r_throwsIf0_1 l D cI cJ cB cC h 0 aw ai ab ac hi re aP ta po en be de fa a5 sp av an ak ne aW aC ag aT aN aF 1 H.size) (cwV 2 hts gX11_cost_X11_throwsIf rfl rfl rfl ⟨rfl, hdX11_throwsIf⟩ ⟨Nat.le_of_ble_eq_true rfl, Nat.le_of_ble_eq_true rfl⟩) ⟨kBlind, va_recv hK hPc (ci := 10) (q0 := 0) rfl rfl, fun U hU hW => ⟨rfl, by rw [hU], hN.warm hW, hE.pass hS hFc hW hU, by rw [hU]; exact hPc, va_K.moved hW.alike hK, hDc⟩⟩ rfl rfl hl.1 rfl (lv_room (Nat.le_of_ble_eq_true rfl)) dX11_cost_28 ⟨Nat.le_of_ble_eq_true rfl, Nat.le_of_ble_eq_true rfl⟩) (fun r15 u H locs hw hP hS => ?_)
      obtain ⟨k16, k17⟩ := hw
      refine lv_if_eq (tgt := 38) hx hb dX11_cost_31 (by decide) (fun _ => ?_) (fun c22 => absurd (rg_eq k16 (rg_lit (n := 0) (by decide)) (by decide)) c22)
      refine lv_aload_n hx hb dX11_cost_38 rfl (lv_at hl 0 rfl) ?_
      refine lv_iload_n hx hb dX11_cost_39 rfl (lv_at hl 1 rfl) ?_
      refine lv_iload_n hx hb dX11_cost_40 rfl (lv_at hl 2 rfl) ?_
      refine kcalli (wc := [(h, oX11 0 aw ai ab ac hi re aP ta po en be de fa a5 sp av an ak ne aW aC ag aT aN aF), (aw, kcI cI 2179 fw), (av, kcI cI 400 fv)]) (wr := []) hP hD hS hA [0, 1, 2] [] rfl rfl (by decide) (by decide) (by decide) (fun hPc hDc hFc => va_runV (As := [.int a1, .int b1]) (rest := []) ⟨hx, hb, hml, hown, hts⟩ (r_costOf l D cI cJ cB cC h 0 aw ai ab ac hi re aP ta po en be de fa a5 sp av an ak ne aW aC ag aT aN aF fw fv a1 b1 H.size kc3_0 kc13_0 H_fw_W H_fw_L) (cwV 2 hts gX11_cost_X11_costOf rfl rfl rfl ⟨rfl, hdX11_costOf⟩ ⟨Nat.le_of_ble_eq_true rfl, Nat.le_of_ble_eq_true rfl⟩) ⟨kBlind, va_recv hK hPc (ci := 10) (q0 := 0) rfl rfl, fun U hU hW => ⟨rfl, by rw [hU], hN.warm hW, hE.pass hS hFc hW hU, by rw [hU]; exact hPc, va_K.moved hW.alike hK, hDc⟩⟩ rfl rfl hl.1 rfl (lv_room (Nat.le_of_ble_eq_true rfl)) dX11_cost_41 ⟨Nat.le_of_ble_eq_true rfl, Nat.le_of_ble_eq_true rfl⟩) (fun r23 u H locs hw hP hD hS => ?_)
      obtain ⟨g24, rfl⟩ : ∃ z, z = u := ⟨_, rfl⟩
      have hP : va_P D vwCl [(h, oX11 0 aw ai ab ac hi re aP ta po en be de fa a5 sp av an ak ne aW aC ag aT aN aF), (aw, kcI cI 2179 fw), (av, kcI cI 400 g24)] H := hP
      have hD : va_D A [(h, oX11 0 aw ai ab ac hi re aP ta po en be de fa a5 sp av an ak ne aW aC ag aT aN aF), (aw, kcI cI 2179 fw), (av, kcI cI 400 g24)] := hD
      have k25 := hw
      have hP9 := hP.sub (ws' := [(h, oX11 0 aw ai ab ac hi re aP ta po en be de fa a5 sp av an ak ne aW aC ag aT aN aF), (aw, kcI cI 2179 fw), (av, kcI cI 400 g24)]) [0, 1, 2] rfl
      have hD9 := hD.sub (ws' := [(h, oX11 0 aw ai ab ac hi re aP ta po en be de fa a5 sp av an ak ne aW aC ag aT aN aF), (aw, kcI cI 2179 fw), (av, kcI cI 400 g24)]) [0, 1, 2] (by decide) rfl
      exact W.iret (v := r23) hx hb hr (fun t ht hW => ⟨⟨r23, ((0 : Int32), g24), rfl, (kLet_eq (k2).symm (kif_t rfl (kLet_eq (k12).symm (kif_t rfl (kLet_eq (k17).symm (kC_eq k25 rfl)))))), by rw [ht]; exact hP9, va_K.moved hW.alike hK, hD9⟩, hS.F ht⟩) hS.2.2 dX11_cost_44
    · skip
      refine lv_if_eq (tgt := 26) hx hb dX11_cost_19 (by decide) (fun c26 => absurd c26 (by decide)) (fun _ => ?_)
      refine lv_iconst (v := 1) hx hb dX11_cost_22 (by decide) ?_
      refine lv_goto (tgt := 27) hx hb dX11_cost_23 (by decide) ?_
      refine lv_iconst (v := 1) hx hb dX11_cost_27 (by decide) ?_
      refine kcalli (wc := [(h, oX11 0 aw ai ab ac hi re aP ta po en be de fa a5 sp av an ak ne aW aC ag aT aN aF)]) (wr := [(aw, kcI cI 2179 fw), (av, kcI cI 400 fv)]) hP hD hS hA [0] [1, 2] rfl rfl (by decide) (by decide) (by decide) (fun hPc hDc hFc => va_runV (As := [.int 1, .int 1]) (rest := []) ⟨hx, hb, hml, hown, hts⟩ (r_throwsIf1_1 l D cI cJ cB cC h 0 aw ai ab ac hi re aP ta po en be de fa a5 sp av an ak ne aW aC ag aT aN aF 1 H.size) (cwV 2 hts gX11_cost_X11_throwsIf rfl rfl rfl ⟨rfl, hdX11_throwsIf⟩ ⟨Nat.le_of_ble_eq_true rfl, Nat.le_of_ble_eq_true rfl⟩) ⟨kBlind, va_recv hK hPc (ci := 10) (q0 := 0) rfl rfl, fun U hU hW => ⟨rfl, by rw [hU], hN.warm hW, hE.pass hS hFc hW hU, by rw [hU]; exact hPc, va_K.moved hW.alike hK, hDc⟩⟩ rfl rfl hl.1 rfl (lv_room (Nat.le_of_ble_eq_true rfl)) dX11_cost_28 ⟨Nat.le_of_ble_eq_true rfl, Nat.le_of_ble_eq_true rfl⟩) (fun r27 u H locs hw hP hD hS => ?_)
      obtain ⟨x28, rfl⟩ : ∃ z, z = u := ⟨_, rfl⟩
      have hP : va_P D vwCl [(aw, kcI cI 2179 fw), (av, kcI cI 400 fv), (h, oX11 x28 aw ai ab ac hi re aP ta po en be de fa a5 sp av an ak ne aW aC ag aT aN aF)] H := hP
      have hD : va_D A [(aw, kcI cI 2179 fw), (av, kcI cI 400 fv), (h, oX11 x28 aw ai ab ac hi re aP ta po en be de fa a5 sp av an ak ne aW aC ag aT aN aF)] := hD
      obtain ⟨k29, k30⟩ := hw
      refine lv_if_eq (tgt := 38) hx hb dX11_cost_31 (by decide) (fun c32 => absurd c32 (rg_neq k29 (rg_lit (n := 0) (by decide)) (by decide))) (fun _ => ?_)
      refine lv_iconst (v := 0) hx hb dX11_cost_34 (by decide) ?_
      refine lv_goto (tgt := 44) hx hb dX11_cost_35 (by decide) ?_
      have hP9 := hP.sub (ws' := [(h, oX11 x28 aw ai ab ac hi re aP ta po en be de fa a5 sp av an ak ne aW aC ag aT aN aF), (aw, kcI cI 2179 fw), (av, kcI cI 400 fv)]) [2, 0, 1] rfl
      have hD9 := hD.sub (ws' := [(h, oX11 x28 aw ai ab ac hi re aP ta po en be de fa a5 sp av an ak ne aW aC ag aT aN aF), (aw, kcI cI 2179 fw), (av, kcI cI 400 fv)]) [2, 0, 1] (by decide) rfl
      exact W.iret (v := 0) hx hb hr (fun t ht hW => ⟨⟨0, (x28, fv), rfl, (kLet_eq (k2).symm (kif_t rfl (kLet_eq (k12).symm (kif_f (by decide) (kC_eq k30 rfl))))), by rw [ht]; exact hP9, va_K.moved hW.alike hK, hD9⟩, hS.F ht⟩) hS.2.2 dX11_cost_44
  · skip
    refine lv_if_ne (tgt := 22) hx hb dX11_cost_11 (by decide) (fun _ => ?_) (fun c34 => absurd c34 (by decide))
    refine lv_iconst (v := 1) hx hb dX11_cost_22 (by decide) ?_
    refine lv_goto (tgt := 27) hx hb dX11_cost_23 (by decide) ?_
    refine lv_iconst (v := 1) hx hb dX11_cost_27 (by decide) ?_
    refine kcalli (wc := [(h, oX11 0 aw ai ab ac hi re aP ta po en be de fa a5 sp av an ak ne aW aC ag aT aN aF)]) (wr := [(aw, kcI cI 2179 fw), (av, kcI cI 400 fv)]) hP hD hS hA [0] [1, 2] rfl rfl (by decide) (by decide) (by decide) (fun hPc hDc hFc => va_runV (As := [.int 1, .int 1]) (rest := []) ⟨hx, hb, hml, hown, hts⟩ (r_throwsIf1_1 l D cI cJ cB cC h 0 aw ai ab ac hi re aP ta po en be de fa a5 sp av an ak ne aW aC ag aT aN aF 1 H.size) (cwV 2 hts gX11_cost_X11_throwsIf rfl rfl rfl ⟨rfl, hdX11_throwsIf⟩ ⟨Nat.le_of_ble_eq_true rfl, Nat.le_of_ble_eq_true rfl⟩) ⟨kBlind, va_recv hK hPc (ci := 10) (q0 := 0) rfl rfl, fun U hU hW => ⟨rfl, by rw [hU], hN.warm hW, hE.pass hS hFc hW hU, by rw [hU]; exact hPc, va_K.moved hW.alike hK, hDc⟩⟩ rfl rfl hl.1 rfl (lv_room (Nat.le_of_ble_eq_true rfl)) dX11_cost_28 ⟨Nat.le_of_ble_eq_true rfl, Nat.le_of_ble_eq_true rfl⟩) (fun r35 u H locs hw hP hD hS => ?_)
    obtain ⟨x36, rfl⟩ : ∃ z, z = u := ⟨_, rfl⟩
    have hP : va_P D vwCl [(aw, kcI cI 2179 fw), (av, kcI cI 400 fv), (h, oX11 x36 aw ai ab ac hi re aP ta po en be de fa a5 sp av an ak ne aW aC ag aT aN aF)] H := hP
    have hD : va_D A [(aw, kcI cI 2179 fw), (av, kcI cI 400 fv), (h, oX11 x36 aw ai ab ac hi re aP ta po en be de fa a5 sp av an ak ne aW aC ag aT aN aF)] := hD
    obtain ⟨k37, k38⟩ := hw
    refine lv_if_eq (tgt := 38) hx hb dX11_cost_31 (by decide) (fun c40 => absurd c40 (rg_neq k37 (rg_lit (n := 0) (by decide)) (by decide))) (fun _ => ?_)
    refine lv_iconst (v := 0) hx hb dX11_cost_34 (by decide) ?_
    refine lv_goto (tgt := 44) hx hb dX11_cost_35 (by decide) ?_
    have hP9 := hP.sub (ws' := [(h, oX11 x36 aw ai ab ac hi re aP ta po en be de fa a5 sp av an ak ne aW aC ag aT aN aF), (aw, kcI cI 2179 fw), (av, kcI cI 400 fv)]) [2, 0, 1] rfl
    have hD9 := hD.sub (ws' := [(h, oX11 x36 aw ai ab ac hi re aP ta po en be de fa a5 sp av an ak ne aW aC ag aT aN aF), (aw, kcI cI 2179 fw), (av, kcI cI 400 fv)]) [2, 0, 1] (by decide) rfl
    exact W.iret (v := 0) hx hb hr (fun t ht hW => ⟨⟨0, (x36, fv), rfl, (kLet_eq (k2).symm (kif_f (by decide) (kC_eq k38 rfl))), by rw [ht]; exact hP9, va_K.moved hW.alike hK, hD9⟩, hS.F ht⟩) hS.2.2 dX11_cost_44

def kwX11_givable : List Cond := .code yX11_givable cX11_givable 4 (some .int) :: kG
theorem hdX11_givable : yX11_givable.cls ≠ "java/lang/invoke/MethodHandle" ∧ yX11_givable.cls ≠ "java/lang/invoke/VarHandle" ∧ (parseMethodDescriptor yX11_givable.desc).map (fun d => d.parameters.length) = some 1 := by decide +kernel
theorem gX11_givable_X11_isBarred : GoodIn kG (wsV RX11 286 RX11 yX11_isBarred kwX11_isBarred) := gK w30_7 (gK w30_8 (gK w30_9 (gK w0_5 (gK w30_10 gGG))))
theorem gX11_givable_X11_of : GoodIn kG (wsV RX11 156 RX11 yX11_of kwX11_of) := gK w21_9 (gK w21_10 (gK w21_11 (gK w0_5 (gK w21_12 gGG))))
theorem gX11_givable_X11_shirts : GoodIn kG (wsV RX11 79 RX11 yX11_shirts kwX11_shirts) := gK w20_17 (gK w20_18 (gK w20_19 (gK w0_5 (gK w20_20 gGG))))
theorem dX11_givable_0 : decode cX11_givable 0 = .ok (.iconst 0, 1) := by decide +kernel
theorem dX11_givable_1 : decode cX11_givable 1 = .ok (.istore_n 2, 1) := by decide +kernel
theorem dX11_givable_2 : decode cX11_givable 2 = .ok (.iconst 0, 1) := by decide +kernel
theorem dX11_givable_3 : decode cX11_givable 3 = .ok (.istore_n 3, 1) := by decide +kernel
theorem dX11_givable_4 : decode cX11_givable 4 = .ok (.iload_n 3, 1) := by decide +kernel
theorem dX11_givable_5 : decode cX11_givable 5 = .ok (.aload_n 0, 1) := by decide +kernel
theorem dX11_givable_6 : decode cX11_givable 6 = .ok (.invokevirtual 79, 3) := by decide +kernel
theorem dX11_givable_9 : decode cX11_givable 9 = .ok (.if_icmp .ge 37, 3) := by decide +kernel
theorem dX11_givable_12 : decode cX11_givable 12 = .ok (.iload_n 2, 1) := by decide +kernel
theorem dX11_givable_13 : decode cX11_givable 13 = .ok (.aload_n 0, 1) := by decide +kernel
theorem dX11_givable_14 : decode cX11_givable 14 = .ok (.iload_n 3, 1) := by decide +kernel
theorem dX11_givable_15 : decode cX11_givable 15 = .ok (.iconst 5, 1) := by decide +kernel
theorem dX11_givable_16 : decode cX11_givable 16 = .ok (.invokevirtual 156, 3) := by decide +kernel
theorem dX11_givable_19 : decode cX11_givable 19 = .ok (.ifCond .ge 18, 3) := by decide +kernel
theorem dX11_givable_22 : decode cX11_givable 22 = .ok (.aload_n 0, 1) := by decide +kernel
theorem dX11_givable_23 : decode cX11_givable 23 = .ok (.iload_n 1, 1) := by decide +kernel
theorem dX11_givable_24 : decode cX11_givable 24 = .ok (.iload_n 3, 1) := by decide +kernel
theorem dX11_givable_25 : decode cX11_givable 25 = .ok (.invokevirtual 286, 3) := by decide +kernel
theorem dX11_givable_28 : decode cX11_givable 28 = .ok (.ifCond .ne 9, 3) := by decide +kernel
theorem dX11_givable_31 : decode cX11_givable 31 = .ok (.iconst 1, 1) := by decide +kernel
theorem dX11_givable_32 : decode cX11_givable 32 = .ok (.iload_n 3, 1) := by decide +kernel
theorem dX11_givable_33 : decode cX11_givable 33 = .ok (.ishl, 1) := by decide +kernel
theorem dX11_givable_34 : decode cX11_givable 34 = .ok (.goto 4, 3) := by decide +kernel
theorem dX11_givable_37 : decode cX11_givable 37 = .ok (.iconst 0, 1) := by decide +kernel
theorem dX11_givable_38 : decode cX11_givable 38 = .ok (.ior, 1) := by decide +kernel
theorem dX11_givable_39 : decode cX11_givable 39 = .ok (.istore_n 2, 1) := by decide +kernel
theorem dX11_givable_40 : decode cX11_givable 40 = .ok (.iinc 3 1, 3) := by decide +kernel
theorem dX11_givable_43 : decode cX11_givable 43 = .ok (.goto (-39), 3) := by decide +kernel
theorem dX11_givable_46 : decode cX11_givable 46 = .ok (.iload_n 2, 1) := by decide +kernel
theorem dX11_givable_47 : decode cX11_givable 47 = .ok (.ireturn, 1) := by decide +kernel