def kwX11_looks : List Cond := .code yX11_looks cX11_looks 2 none :: kG
theorem hdX11_looks : yX11_looks.cls ≠ "java/lang/invoke/MethodHandle" ∧ yX11_looks.cls ≠ "java/lang/invoke/VarHandle" ∧ (parseMethodDescriptor yX11_looks.desc).map (fun d => d.parameters.length) = some 0 := by decide +kernel
theorem gX11_looks_X11_givable : GoodIn kG (wsV RX11 319 RX11 yX11_givable kwX11_givable) := gK w40_16 (gK w40_17 (gK w40_18 (gK w0_5 (gK w40_19 gGG))))
theorem gX11_looks_X11_men : GoodIn kG (wsV RX11 71 RX11 yX11_men kwX11_men) := gK w19_17 (gK w19_18 (gK w19_19 (gK w0_5 (gK w19_20 gGG))))
theorem gX11_looks_X11_ofMan : GoodIn kG (wsV RX11 153 RX11 yX11_ofMan kwX11_ofMan) := gK w21_5 (gK w21_6 (gK w21_7 (gK w0_5 (gK w21_8 gGG))))
theorem dX11_looks_0 : decode cX11_looks 0 = .ok (.aload_n 0, 1) := by decide +kernel
theorem dX11_looks_1 : decode cX11_looks 1 = .ok (.iconst 0, 1) := by decide +kernel
theorem dX11_looks_2 : decode cX11_looks 2 = .ok (.putfield 316, 3) := by decide +kernel
theorem dX11_looks_5 : decode cX11_looks 5 = .ok (.iconst 0, 1) := by decide +kernel
theorem dX11_looks_6 : decode cX11_looks 6 = .ok (.istore_n 1, 1) := by decide +kernel
theorem dX11_looks_7 : decode cX11_looks 7 = .ok (.iload_n 1, 1) := by decide +kernel
theorem dX11_looks_8 : decode cX11_looks 8 = .ok (.aload_n 0, 1) := by decide +kernel
theorem dX11_looks_9 : decode cX11_looks 9 = .ok (.invokevirtual 71, 3) := by decide +kernel
theorem dX11_looks_12 : decode cX11_looks 12 = .ok (.if_icmp .ge 55, 3) := by decide +kernel
theorem dX11_looks_15 : decode cX11_looks 15 = .ok (.aload_n 0, 1) := by decide +kernel
theorem dX11_looks_16 : decode cX11_looks 16 = .ok (.iload_n 1, 1) := by decide +kernel
theorem dX11_looks_17 : decode cX11_looks 17 = .ok (.iconst 4, 1) := by decide +kernel
theorem dX11_looks_18 : decode cX11_looks 18 = .ok (.invokevirtual 153, 3) := by decide +kernel
theorem dX11_looks_21 : decode cX11_looks 21 = .ok (.ifCond .lt 6, 3) := by decide +kernel
theorem dX11_looks_24 : decode cX11_looks 24 = .ok (.goto 37, 3) := by decide +kernel
theorem dX11_looks_27 : decode cX11_looks 27 = .ok (.aload_n 0, 1) := by decide +kernel
theorem dX11_looks_28 : decode cX11_looks 28 = .ok (.getfield 39, 3) := by decide +kernel
theorem dX11_looks_31 : decode cX11_looks 31 = .ok (.aload_n 0, 1) := by decide +kernel
theorem dX11_looks_32 : decode cX11_looks 32 = .ok (.getfield 316, 3) := by decide +kernel
theorem dX11_looks_35 : decode cX11_looks 35 = .ok (.iload_n 1, 1) := by decide +kernel
theorem dX11_looks_36 : decode cX11_looks 36 = .ok (.iastore, 1) := by decide +kernel
theorem dX11_looks_37 : decode cX11_looks 37 = .ok (.aload_n 0, 1) := by decide +kernel
theorem dX11_looks_38 : decode cX11_looks 38 = .ok (.getfield 42, 3) := by decide +kernel
theorem dX11_looks_41 : decode cX11_looks 41 = .ok (.aload_n 0, 1) := by decide +kernel
theorem dX11_looks_42 : decode cX11_looks 42 = .ok (.getfield 316, 3) := by decide +kernel
theorem dX11_looks_45 : decode cX11_looks 45 = .ok (.aload_n 0, 1) := by decide +kernel
theorem dX11_looks_46 : decode cX11_looks 46 = .ok (.iload_n 1, 1) := by decide +kernel
theorem dX11_looks_47 : decode cX11_looks 47 = .ok (.invokevirtual 319, 3) := by decide +kernel
theorem dX11_looks_50 : decode cX11_looks 50 = .ok (.iastore, 1) := by decide +kernel
theorem dX11_looks_51 : decode cX11_looks 51 = .ok (.aload_n 0, 1) := by decide +kernel
theorem dX11_looks_52 : decode cX11_looks 52 = .ok (.dup, 1) := by decide +kernel
theorem dX11_looks_53 : decode cX11_looks 53 = .ok (.getfield 316, 3) := by decide +kernel
theorem dX11_looks_56 : decode cX11_looks 56 = .ok (.iconst 1, 1) := by decide +kernel
theorem dX11_looks_57 : decode cX11_looks 57 = .ok (.iadd, 1) := by decide +kernel
theorem dX11_looks_58 : decode cX11_looks 58 = .ok (.putfield 316, 3) := by decide +kernel
theorem dX11_looks_61 : decode cX11_looks 61 = .ok (.iinc 1 1, 3) := by decide +kernel
theorem dX11_looks_64 : decode cX11_looks 64 = .ok (.goto (-57), 3) := by decide +kernel
theorem dX11_looks_67 : decode cX11_looks 67 = .ok (.return_, 1) := by decide +kernel
set_option maxHeartbeats 4000000 in
set_option maxRecDepth 100000 in
/-- reference: looks -/
theorem r_looks (l : Launch) (D : va_G) (cI cJ cB cC : ClassId) (h : Nat) (th : Int32) (aw : Nat) (ai : Nat) (ab : Nat) (ac : Nat) (hi : Int32) (re : Int32) (aP : Nat) (ta : Int32) (po : Int32) (en : Int32) (be : Int32) (de : Int32) (fa : Int32) (a5 : Nat) (sp : Int32) (av : Nat) (an : Nat) (ak : Nat) (ne : Int32) (aW : Nat) (aC : Nat) (ag : Nat) (aT : Nat) (aN : Nat) (aF : Nat) (fw : Nat → Int32) (fv : Nat → Int32) (fn : Nat → Int32) (fk : Nat → Int32) (sz : Nat) (H_fw_W : wW fw) (H_fw_L : wL fw) (H_fn_N : wN fn) : Met l yX11_looks kwX11_looks ({ frames := 7, cells := 0, slots := 0, locals := 167 } : Room) (kPre D (kT cI cJ cB cC) sz [(h, oX11 th aw ai ab ac hi re aP ta po en be de fa a5 sp av an ak ne aW aC ag aT aN aF), (aw, kcI cI 2179 fw), (av, kcI cI 400 fv), (an, kcI cI 10 fn), (ak, kcI cI 10 fk)] [.ref h]) (va_Qv (fun (uu : Int32 × (Nat → Int32) × (Nat → Int32) × (Nat → Int32)) => match uu with | (n0_, f1_, f2_, f3_) => Rg n0_ 0 10 ∧ wN f2_ ∧ F_r_looks (gT fw) (gT fv) (gT fn) (gT fk) = ((n0_ : Int32).toInt, (gT f1_), (gT f2_), (gT f3_))) (fun (uu : Int32 × (Nat → Int32) × (Nat → Int32) × (Nat → Int32)) (t : State) => match uu with | (n0_, f1_, f2_, f3_) => kB D (kT cI cJ cB cC) (va_A [(h, oX11 th aw ai ab ac hi re aP ta po en be de fa a5 sp av an ak ne aW aC ag aT aN aF), (aw, kcI cI 2179 fw), (av, kcI cI 400 fv), (an, kcI cI 10 fn), (ak, kcI cI 10 fk)] sz) [(h, oX11 th aw ai ab ac hi re aP ta po en be de fa a5 sp av an ak n0_ aW aC ag aT aN aF), (aw, kcI cI 2179 fw), (av, kcI cI 400 f1_), (an, kcI cI 10 f2_), (ak, kcI cI 10 f3_)] t) (va_A [(h, oX11 th aw ai ab ac hi re aP ta po en be de fa a5 sp av an ak ne aW aC ag aT aN aF), (aw, kcI cI 2179 fw), (av, kcI cI 400 fv), (an, kcI cI 10 fn), (ak, kcI cI 10 fk)] sz)) 0 0 (va_A [(h, oX11 th aw ai ab ac hi re aP ta po en be de fa a5 sp av an ak ne aW aC ag aT aN aF), (aw, kcI cI 2179 fw), (av, kcI cI 400 fv), (an, kcI cI 10 fn), (ak, kcI cI 10 fk)] sz) := by
  refine Met.ofW (cc := cX11_looks) (maxL := 2) (ret := none) (by decide) rfl ?_
  intro p e s m args below meth c s₁ B hml hv
  obtain ⟨rfl, hsz, hN, hE, hP, hK, hD0⟩ := hv
  have hx := B.exec
  have hb := B.bytes
  have hr := B.returns
  have hts := fun (w : Cond) (h : w ∈ kG) => atoms_spec (ws := kwX11_looks) B.pre w (List.mem_cons_of_mem _ h)
  have hown : s.vm.findClass RX11 = some m.cls := findClass_of_methodNamed B.named
  subst hsz
  have hD := hD0.self (sz := s.heap.size)
  generalize hAe : va_A [(h, oX11 th aw ai ab ac hi re aP ta po en be de fa a5 sp av an ak ne aW aC ag aT aN aF), (aw, kcI cI 2179 fw), (av, kcI cI 400 fv), (an, kcI cI 10 fn), (ak, kcI cI 10 fk)] s.heap.size = A at hD hE ⊢
  have hA : ∀ q : Nat, s.heap.size ≤ q → A q := fun q h => by rw [← hAe]; exact Or.inr h
  have hl := lv_entry ([.ref h]) (n := 2) (Nat.le_of_ble_eq_true rfl)
  rw [lg_entry_eq]
  generalize (lg_sl ([.ref h]) ++ List.replicate (2 - (lg_sl ([.ref h])).length) Slot.unset).toArray = ls at hl ⊢
  have hl : lv_has ls 2 [(0, .ref h)] := hl
  obtain ⟨H, hH0⟩ : ∃ H, H = s.heap := ⟨_, rfl⟩
  have hS : va_S A s.heap H [] := by rw [hH0]; exact va_S.rf
  have hP : va_P D vwCl [(h, oX11 th aw ai ab ac hi re aP ta po en be de fa a5 sp av an ak ne aW aC ag aT aN aF), (aw, kcI cI 2179 fw), (av, kcI cI 400 fv), (an, kcI cI 10 fn), (ak, kcI cI 10 fk)] H := by rw [hH0]; exact hP
  refine kHeap hH0 ?_
  clear hH0
  refine lv_aload_n hx hb dX11_looks_0 rfl (lv_at hl 0 rfl) ?_
  refine lv_iconst (v := 0) hx hb dX11_looks_1 (by decide) ?_
  refine va_put (D := D) (ci := 10) (v := .int 0) (ty := .int) (C := RX11) (T := TX11) (N := 26) hx hb hts iG_X11 tyX11 tyX11_ok nmX11 hown hK hP hD hS 0 rfl rfl 19 (by decide) (hts _ w40_11) (fun _ h9 => h9) rfl (by decide +kernel) rfl rfl (Nat.le_of_ble_eq_true rfl) dX11_looks_2 (fun H locs hP hD hS => ?_)
  have hP : va_P D vwCl [(h, oX11 th aw ai ab ac hi re aP ta po en be de fa a5 sp av an ak 0 aW aC ag aT aN aF), (aw, kcI cI 2179 fw), (av, kcI cI 400 fv), (an, kcI cI 10 fn), (ak, kcI cI 10 fk)] H := hP
  have hD : va_D A [(h, oX11 th aw ai ab ac hi re aP ta po en be de fa a5 sp av an ak 0 aW aC ag aT aN aF), (aw, kcI cI 2179 fw), (av, kcI cI 400 fv), (an, kcI cI 10 fn), (ak, kcI cI 10 fk)] := hD
  refine lv_iconst (v := 0) hx hb dX11_looks_5 (by decide) ?_
  refine lv_istore_n (lv' := [(1, .int 0), (0, .ref h)]) hx hb dX11_looks_6 rfl hl (by decide) rfl (fun ls hl => ?_)
  refine k_loop (hd := 7) (fun (u : Int32 × Int32 × (Nat → Int32) × (Nat → Int32) × (Nat → Int32)) => match u with | (y526, y527, g528, g529, g530) => (10 - (y526).toInt).toNat) (fun (u : Int32 × Int32 × (Nat → Int32) × (Nat → Int32) × (Nat → Int32)) (H : Heap) (locs : List Loc) (ls : Array Slot) => match u with | (y526, y527, g528, g529, g530) => (0 ≤ (y527 : Int32).toInt ∧ (y527 : Int32).toInt ≤ (y526 : Int32).toInt) ∧ (F_r_looks (gT fw) (gT fv) (gT fn) (gT fk) = F_r_looks_l1 (gT fw) (y526.toInt, y527.toInt, (gT g528), (gT g529), (gT g530))) ∧ Rg y526 0 10 ∧ Rg y527 0 10 ∧ wN g529 ∧ va_P D vwCl [(h, oX11 th aw ai ab ac hi re aP ta po en be de fa a5 sp av an ak y527 aW aC ag aT aN aF), (aw, kcI cI 2179 fw), (av, kcI cI 400 g528), (an, kcI cI 10 g529), (ak, kcI cI 10 g530)] H ∧ va_D A [(h, oX11 th aw ai ab ac hi re aP ta po en be de fa a5 sp av an ak y527 aW aC ag aT aN aF), (aw, kcI cI 2179 fw), (av, kcI cI 400 g528), (an, kcI cI 10 g529), (ak, kcI cI 10 g530)] ∧ va_S A s.heap H locs ∧ lv_has ls 2 [(1, .int y526), (0, .ref h)]) ((0 : Int32), (0 : Int32), fv, fn, fk) ⟨⟨by decide, Int.le_refl _⟩, rfl, (rg_w (rg_lit (n := 0) (by decide)) (by decide)), (rg_w (rg_lit (n := 0) (by decide)) (by decide)), H_fn_N, hP.sub (ws' := [(h, oX11 th aw ai ab ac hi re aP ta po en be de fa a5 sp av an ak 0 aW aC ag aT aN aF), (aw, kcI cI 2179 fw), (av, kcI cI 400 fv), (an, kcI cI 10 fn), (ak, kcI cI 10 fk)]) [0, 1, 2, 3, 4] rfl, hD.sub (ws' := [(h, oX11 th aw ai ab ac hi re aP ta po en be de fa a5 sp av an ak 0 aW aC ag aT aN aF), (aw, kcI cI 2179 fw), (av, kcI cI 400 fv), (an, kcI cI 10 fn), (ak, kcI cI 10 fk)]) [0, 1, 2, 3, 4] (by decide) rfl, hS, lv_sub (l' := [(1, .int 0), (0, .ref h)]) hl [0, 1] rfl⟩ (fun u H locs ls hI ih531 => ?_)
  clear hP hD hS hl
  obtain ⟨y526, y527, g528, g529, g530⟩ := u
  obtain ⟨hX7_0, hF1, hy526, hy527, hg529_0, hP, hD, hS, hl⟩ := hI
  have hP : va_P D vwCl [(h, oX11 th aw ai ab ac hi re aP ta po en be de fa a5 sp av an ak y527 aW aC ag aT aN aF), (aw, kcI cI 2179 fw), (av, kcI cI 400 g528), (an, kcI cI 10 g529), (ak, kcI cI 10 g530)] H := hP
  have hD : va_D A [(h, oX11 th aw ai ab ac hi re aP ta po en be de fa a5 sp av an ak y527 aW aC ag aT aN aF), (aw, kcI cI 2179 fw), (av, kcI cI 400 g528), (an, kcI cI 10 g529), (ak, kcI cI 10 g530)] := hD
  have hl : lv_has ls 2 [(1, .int y526), (0, .ref h)] := hl
  refine lv_iload_n hx hb dX11_looks_7 rfl (lv_at hl 0 rfl) ?_
  refine lv_aload_n hx hb dX11_looks_8 rfl (lv_at hl 1 rfl) ?_
  refine kpurei (wc := [(h, oX11 th aw ai ab ac hi re aP ta po en be de fa a5 sp av an ak y527 aW aC ag aT aN aF), (aw, kcI cI 2179 fw)]) hP hD hS hA [0, 1] rfl (by decide) (fun hPc hDc hFc => va_runV (As := []) (rest := [.int y526]) ⟨hx, hb, hml, hown, hts⟩ (r_men l D cI cJ cB cC h th aw ai ab ac hi re aP ta po en be de fa a5 sp av an ak y527 aW aC ag aT aN aF fw H.size H_fw_W) (cwV 0 hts gX11_looks_X11_men rfl rfl rfl ⟨rfl, hdX11_men⟩ ⟨Nat.le_of_ble_eq_true rfl, Nat.le_of_ble_eq_true rfl⟩) ⟨kBlind, va_recv hK hPc (ci := 10) (q0 := 0) rfl rfl, fun U hU hW => ⟨rfl, by rw [hU], hN.warm hW, hE.pass hS hFc hW hU, by rw [hU]; exact hPc, va_K.moved hW.alike hK, hDc⟩⟩ rfl rfl hl.1 rfl (lv_room (Nat.le_of_ble_eq_true rfl)) dX11_looks_9 ⟨Nat.le_of_ble_eq_true rfl, Nat.le_of_ble_eq_true rfl⟩) (fun r532 u H locs hw hP hS => ?_)
  obtain ⟨k533, k534, k535⟩ := hw
  refine lv_icmp_ge (tgt := 67) hx hb dX11_looks_12 (by decide) (fun c536 => ?_) (fun c536 => ?_)
  · skip
    have hP9 := hP.sub (ws' := [(h, oX11 th aw ai ab ac hi re aP ta po en be de fa a5 sp av an ak y527 aW aC ag aT aN aF), (aw, kcI cI 2179 fw), (av, kcI cI 400 g528), (an, kcI cI 10 g529), (ak, kcI cI 10 g530)]) [0, 1, 2, 3, 4] rfl
    have hD9 := hD.sub (ws' := [(h, oX11 th aw ai ab ac hi re aP ta po en be de fa a5 sp av an ak y527 aW aC ag aT aN aF), (aw, kcI cI 2179 fw), (av, kcI cI 400 g528), (an, kcI cI 10 g529), (ak, kcI cI 10 g530)]) [0, 1, 2, 3, 4] (by decide) rfl
    exact W.vret hx hb hr (fun t ht hW => ⟨⟨(y527, g528, g529, g530), rfl, ⟨hy527, hg529_0, (hF1.trans (kIter_out (kC_eq rfl (kC_eq rfl (kC_eq rfl (kC_eq rfl (kLet_eq (k535).symm (kif_t (leI c536) rfl))))))))⟩, by rw [ht]; exact hP9, va_K.moved hW.alike hK, hD9⟩, hS.F ht⟩) hS.2.2 dX11_looks_67
  · skip
    have k537 : Rg y526 0 9 := rg_l1 (nleI c536) hy526 k534 (by decide)
    have k538 : Rg r532 1 10 := rg_l2 (nleI c536) hy526 k534 (by decide)
    have k539 : Rg y527 0 9 := (by have q1 := hX7_0; have q2 := k537; unfold Rg at *; exact ⟨by omega, by omega⟩)
    refine lv_aload_n hx hb dX11_looks_15 rfl (lv_at hl 1 rfl) ?_
    refine lv_iload_n hx hb dX11_looks_16 rfl (lv_at hl 0 rfl) ?_
    refine lv_iconst (v := 4) hx hb dX11_looks_17 (by decide) ?_
    refine kpurei (wc := [(h, oX11 th aw ai ab ac hi re aP ta po en be de fa a5 sp av an ak y527 aW aC ag aT aN aF), (aw, kcI cI 2179 fw)]) hP hD hS hA [0, 1] rfl (by decide) (fun hPc hDc hFc => va_runV (As := [.int y526, .int 4]) (rest := []) ⟨hx, hb, hml, hown, hts⟩ (r_ofMan4 l D cI cJ cB cC h th aw ai ab ac hi re aP ta po en be de fa a5 sp av an ak y527 aW aC ag aT aN aF fw y526 H.size k537 H_fw_W) (cwV 2 hts gX11_looks_X11_ofMan rfl rfl rfl ⟨rfl, hdX11_ofMan⟩ ⟨Nat.le_of_ble_eq_true rfl, Nat.le_of_ble_eq_true rfl⟩) ⟨kBlind, va_recv hK hPc (ci := 10) (q0 := 0) rfl rfl, fun U hU hW => ⟨rfl, by rw [hU], hN.warm hW, hE.pass hS hFc hW hU, by rw [hU]; exact hPc, va_K.moved hW.alike hK, hDc⟩⟩ rfl rfl hl.1 rfl (lv_room (Nat.le_of_ble_eq_true rfl)) dX11_looks_18 ⟨Nat.le_of_ble_eq_true rfl, Nat.le_of_ble_eq_true rfl⟩) (fun r540 u H locs hw hP hS => ?_)
    obtain ⟨k541, k542, k543⟩ := hw
    refine lv_if_lt (tgt := 27) hx hb dX11_looks_21 (by decide) (fun c556 => ?_) (fun c556 => ?_)
    · skip
      have k557 : Rg r540 (-1) (-1) := rg_l1 (ltI c556) k542 (rg_lit (n := 0) (by decide)) (by decide)
      refine lv_aload_n hx hb dX11_looks_27 rfl (lv_at hl 1 rfl) ?_
      refine va_get (D := D) (ci := 10) (v := .ref an) (C := RX11) (T := TX11) (N := 26) hx hb hts iG_X11 hown hK hP 0 rfl rfl 17 (by decide) (hts _ w5_12) (fun _ h9 => h9) rfl dX11_looks_28 ?_
      refine lv_aload_n hx hb dX11_looks_31 rfl (lv_at hl 1 rfl) ?_
      refine va_get (D := D) (ci := 10) (v := .int y527) (C := RX11) (T := TX11) (N := 26) hx hb hts iG_X11 hown hK hP 0 rfl rfl 19 (by decide) (hts _ w40_11) (fun _ h9 => h9) rfl dX11_looks_32 ?_
      refine lv_iload_n hx hb dX11_looks_35 rfl (lv_at hl 0 rfl) ?_
      refine va_iast hx hb hK hP hD hS 3 0 rfl rfl (rg_in k539 (by decide)) dX11_looks_36 (fun H locs hP hD hS => ?_)
      have hP : va_P D vwCl [(h, oX11 th aw ai ab ac hi re aP ta po en be de fa a5 sp av an ak y527 aW aC ag aT aN aF), (aw, kcI cI 2179 fw), (av, kcI cI 400 g528), (an, kcI cI 10 (upd g529 y527.toNatClampNeg y526)), (ak, kcI cI 10 g530)] H := hP
      have hD : va_D A [(h, oX11 th aw ai ab ac hi re aP ta po en be de fa a5 sp av an ak y527 aW aC ag aT aN aF), (aw, kcI cI 2179 fw), (av, kcI cI 400 g528), (an, kcI cI 10 (upd g529 y527.toNatClampNeg y526)), (ak, kcI cI 10 g530)] := hD
      have k559 : wN (upd g529 y527.toNatClampNeg y526) := wN_upd hg529_0 k537
      generalize hg558 : (upd g529 y527.toNatClampNeg y526) = g558 at hP hD k559
      refine lv_aload_n hx hb dX11_looks_37 rfl (lv_at hl 1 rfl) ?_
      refine va_get (D := D) (ci := 10) (v := .ref ak) (C := RX11) (T := TX11) (N := 26) hx hb hts iG_X11 hown hK hP 0 rfl rfl 18 (by decide) (hts _ w5_13) (fun _ h9 => h9) rfl dX11_looks_38 ?_
      refine lv_aload_n hx hb dX11_looks_41 rfl (lv_at hl 1 rfl) ?_
      refine va_get (D := D) (ci := 10) (v := .int y527) (C := RX11) (T := TX11) (N := 26) hx hb hts iG_X11 hown hK hP 0 rfl rfl 19 (by decide) (hts _ w40_11) (fun _ h9 => h9) rfl dX11_looks_42 ?_
      refine lv_aload_n hx hb dX11_looks_45 rfl (lv_at hl 1 rfl) ?_
      refine lv_iload_n hx hb dX11_looks_46 rfl (lv_at hl 0 rfl) ?_
      refine kcalli (wc := [(h, oX11 th aw ai ab ac hi re aP ta po en be de fa a5 sp av an ak y527 aW aC ag aT aN aF), (aw, kcI cI 2179 fw), (av, kcI cI 400 g528)]) (wr := [(an, kcI cI 10 g558), (ak, kcI cI 10 g530)]) hP hD hS hA [0, 1, 2] [3, 4] rfl rfl (by decide) (by decide) (by decide) (fun hPc hDc hFc => va_runV (As := [.int y526]) (rest := [.int y527, .ref ak]) ⟨hx, hb, hml, hown, hts⟩ (r_givable l D cI cJ cB cC h th aw ai ab ac hi re aP ta po en be de fa a5 sp av an ak y527 aW aC ag aT aN aF fw g528 y526 H.size k537 H_fw_W H_fw_L) (cwV 1 hts gX11_looks_X11_givable rfl rfl rfl ⟨rfl, hdX11_givable⟩ ⟨Nat.le_of_ble_eq_true rfl, Nat.le_of_ble_eq_true rfl⟩) ⟨kBlind, va_recv hK hPc (ci := 10) (q0 := 0) rfl rfl, fun U hU hW => ⟨rfl, by rw [hU], hN.warm hW, hE.pass hS hFc hW hU, by rw [hU]; exact hPc, va_K.moved hW.alike hK, hDc⟩⟩ rfl rfl hl.1 rfl (lv_room (Nat.le_of_ble_eq_true rfl)) dX11_looks_47 ⟨Nat.le_of_ble_eq_true rfl, Nat.le_of_ble_eq_true rfl⟩) (fun r560 u H locs hw hP hD hS => ?_)
      obtain ⟨g561, rfl⟩ : ∃ z, z = u := ⟨_, rfl⟩
      have hP : va_P D vwCl [(an, kcI cI 10 g558), (ak, kcI cI 10 g530), (h, oX11 th aw ai ab ac hi re aP ta po en be de fa a5 sp av an ak y527 aW aC ag aT aN aF), (aw, kcI cI 2179 fw), (av, kcI cI 400 g561)] H := hP
      have hD : va_D A [(an, kcI cI 10 g558), (ak, kcI cI 10 g530), (h, oX11 th aw ai ab ac hi re aP ta po en be de fa a5 sp av an ak y527 aW aC ag aT aN aF), (aw, kcI cI 2179 fw), (av, kcI cI 400 g561)] := hD
      obtain ⟨k562, k563⟩ := hw
      refine va_iast hx hb hK hP hD hS 1 0 rfl rfl (rg_in k539 (by decide)) dX11_looks_50 (fun H locs hP hD hS => ?_)
      have hP : va_P D vwCl [(an, kcI cI 10 g558), (ak, kcI cI 10 (upd g530 y527.toNatClampNeg r560)), (h, oX11 th aw ai ab ac hi re aP ta po en be de fa a5 sp av an ak y527 aW aC ag aT aN aF), (aw, kcI cI 2179 fw), (av, kcI cI 400 g561)] H := hP
      have hD : va_D A [(an, kcI cI 10 g558), (ak, kcI cI 10 (upd g530 y527.toNatClampNeg r560)), (h, oX11 th aw ai ab ac hi re aP ta po en be de fa a5 sp av an ak y527 aW aC ag aT aN aF), (aw, kcI cI 2179 fw), (av, kcI cI 400 g561)] := hD
      generalize hg564 : (upd g530 y527.toNatClampNeg r560) = g564 at hP hD
      refine lv_aload_n hx hb dX11_looks_51 rfl (lv_at hl 1 rfl) ?_
      refine lv_dup hx hb dX11_looks_52 rfl ?_
      refine va_get (D := D) (ci := 10) (v := .int y527) (C := RX11) (T := TX11) (N := 26) hx hb hts iG_X11 hown hK hP 2 rfl rfl 19 (by decide) (hts _ w40_11) (fun _ h9 => h9) rfl dX11_looks_53 ?_
      refine lv_iconst (v := 1) hx hb dX11_looks_56 (by decide) ?_
      refine lv_iadd hx hb dX11_looks_57 ?_
      refine lv_topi (fun x565 ex565 => ?_)
      have tx565 : x565.toInt = y527.toInt + 1 := ti_add ex565 k539 (rg_lit (n := 1) (by decide)) (by decide) rfl (by decide)
      have k566 : Rg x565 1 10 := rg_add ex565 k539 (rg_lit (n := 1) (by decide)) (by decide)
      refine va_put (D := D) (ci := 10) (v := .int x565) (ty := .int) (C := RX11) (T := TX11) (N := 26) hx hb hts iG_X11 tyX11 tyX11_ok nmX11 hown hK hP hD hS 2 rfl rfl 19 (by decide) (hts _ w40_11) (fun _ h9 => h9) rfl (by decide +kernel) rfl rfl (Nat.le_of_ble_eq_true rfl) dX11_looks_58 (fun H locs hP hD hS => ?_)
      have hP : va_P D vwCl [(an, kcI cI 10 g558), (ak, kcI cI 10 g564), (h, oX11 th aw ai ab ac hi re aP ta po en be de fa a5 sp av an ak x565 aW aC ag aT aN aF), (aw, kcI cI 2179 fw), (av, kcI cI 400 g561)] H := hP
      have hD : va_D A [(an, kcI cI 10 g558), (ak, kcI cI 10 g564), (h, oX11 th aw ai ab ac hi re aP ta po en be de fa a5 sp av an ak x565 aW aC ag aT aN aF), (aw, kcI cI 2179 fw), (av, kcI cI 400 g561)] := hD
      obtain ⟨x567, ex567⟩ : ∃ y : Int32, y = y526 + 1 := ⟨_, rfl⟩
      refine lv_iinc (v := x567) (lv' := [(1, .int x567), (0, .ref h)]) hx hb dX11_looks_61 hl (k := 0) rfl (by rw [ex567]; rfl) (by decide) rfl (fun ls hl => ?_)
      have k568 : Rg x567 1 10 := rg_add ex567 k537 (rg_lit (n := 1) (by decide)) (by decide)
      refine lv_goto (tgt := 7) hx hb dX11_looks_64 (by decide) ?_
      exact ih531 (x567, x565, g561, g558, g564) _ _ _ (by show (10 - (x567).toInt).toNat < (10 - (y526).toInt).toNat; exact mu_up ex567 k537 k568 (by decide)) ⟨(by have q1 := hX7_0; have q2 := ti_add (Y := 1) ex567 k537 (rg_lit (n := 1) (by decide)) (by decide) rfl (by decide); have q3 := tx565; exact ⟨by omega, by omega⟩), (hF1.trans (kIter_go (kC_eq rfl (kC_eq rfl (kC_eq rfl (kC_eq rfl (kLet_eq (k535).symm (kif_f (xF_le c536) (kLet_eq (k543).symm (kif_t (ltI c556) (kLet_eq (ke_st hg558) (kC_eq k563 (kLet_eq (ke_st hg564) (kLet_eq (ti_add ex565 k539 (rg_lit (n := 1) (by decide)) (by decide) rfl rfl) (kLet_eq (ti_add ex567 k537 (rg_lit (n := 1) (by decide)) (by decide) rfl rfl) rfl))))))))))))))), (rg_w k568 (by decide)), (rg_w k566 (by decide)), k559, hP.sub (ws' := [(h, oX11 th aw ai ab ac hi re aP ta po en be de fa a5 sp av an ak x565 aW aC ag aT aN aF), (aw, kcI cI 2179 fw), (av, kcI cI 400 g561), (an, kcI cI 10 g558), (ak, kcI cI 10 g564)]) [2, 3, 4, 0, 1] rfl, hD.sub (ws' := [(h, oX11 th aw ai ab ac hi re aP ta po en be de fa a5 sp av an ak x565 aW aC ag aT aN aF), (aw, kcI cI 2179 fw), (av, kcI cI 400 g561), (an, kcI cI 10 g558), (ak, kcI cI 10 g564)]) [2, 3, 4, 0, 1] (by decide) rfl, hS, lv_sub (l' := [(1, .int x567), (0, .ref h)]) hl [0, 1] rfl⟩
    · skip
      have k569 : Rg r540 0 11 := rg_e2 (nltI c556) (rg_lit (n := 0) (by decide)) k542 (by decide)
      refine lv_goto (tgt := 61) hx hb dX11_looks_24 (by decide) ?_
      obtain ⟨x570, ex570⟩ : ∃ y : Int32, y = y526 + 1 := ⟨_, rfl⟩
      refine lv_iinc (v := x570) (lv' := [(1, .int x570), (0, .ref h)]) hx hb dX11_looks_61 hl (k := 0) rfl (by rw [ex570]; rfl) (by decide) rfl (fun ls hl => ?_)
      have k571 : Rg x570 1 10 := rg_add ex570 k537 (rg_lit (n := 1) (by decide)) (by decide)
      refine lv_goto (tgt := 7) hx hb dX11_looks_64 (by decide) ?_
      exact ih531 (x570, y527, g528, g529, g530) _ _ _ (by show (10 - (x570).toInt).toNat < (10 - (y526).toInt).toNat; exact mu_up ex570 k537 k571 (by decide)) ⟨(by have q1 := hX7_0; have q2 := ti_add (Y := 1) ex570 k537 (rg_lit (n := 1) (by decide)) (by decide) rfl (by decide); exact ⟨by omega, by omega⟩), (hF1.trans (kIter_go (kC_eq rfl (kC_eq rfl (kC_eq rfl (kC_eq rfl (kLet_eq (k535).symm (kif_f (xF_le c536) (kLet_eq (k543).symm (kif_f (xF_lt c556) (kLet_eq (ti_add ex570 k537 (rg_lit (n := 1) (by decide)) (by decide) rfl rfl) rfl))))))))))), (rg_w k571 (by decide)), (rg_w k539 (by decide)), hg529_0, hP.sub (ws' := [(h, oX11 th aw ai ab ac hi re aP ta po en be de fa a5 sp av an ak y527 aW aC ag aT aN aF), (aw, kcI cI 2179 fw), (av, kcI cI 400 g528), (an, kcI cI 10 g529), (ak, kcI cI 10 g530)]) [0, 1, 2, 3, 4] rfl, hD.sub (ws' := [(h, oX11 th aw ai ab ac hi re aP ta po en be de fa a5 sp av an ak y527 aW aC ag aT aN aF), (aw, kcI cI 2179 fw), (av, kcI cI 400 g528), (an, kcI cI 10 g529), (ak, kcI cI 10 g530)]) [0, 1, 2, 3, 4] (by decide) rfl, hS, lv_sub (l' := [(1, .int x570), (0, .ref h)]) hl [0, 1] rfl⟩

def kwX11_allWays : List Cond := .code yX11_allWays cX11_allWays 4 (some .long) :: kG
theorem hdX11_allWays : yX11_allWays.cls ≠ "java/lang/invoke/MethodHandle" ∧ yX11_allWays.cls ≠ "java/lang/invoke/VarHandle" ∧ (parseMethodDescriptor yX11_allWays.desc).map (fun d => d.parameters.length) = some 0 := by decide +kernel
theorem gX11_allWays_J6_bitCount_0f7a4 : GoodIn kG (va_wsS RX11 325 yJ6_bitCount_0f7a4 kwJ6_bitCount_0f7a4) := gK w40_20 (gK w39_16 (gK w39_17 (gK w39_18 gGG)))
theorem gX11_allWays_X11_has : GoodIn kG (va_wsS RX11 310 yX11_has kwX11_has) := gK w37_15 (gK w37_16 (gK w0_5 (gK w37_17 gGG)))
theorem gX11_allWays_X11_looks : GoodIn kG (wsV RX11 322 RX11 yX11_looks kwX11_looks) := gK w40_12 (gK w40_13 (gK w40_14 (gK w0_5 (gK w40_15 gGG))))
theorem gX11_allWays_X11_shirts : GoodIn kG (wsV RX11 79 RX11 yX11_shirts kwX11_shirts) := gK w20_17 (gK w20_18 (gK w20_19 (gK w0_5 (gK w20_20 gGG))))
theorem dX11_allWays_0 : decode cX11_allWays 0 = .ok (.aload_n 0, 1) := by decide +kernel
theorem dX11_allWays_1 : decode cX11_allWays 1 = .ok (.invokevirtual 322, 3) := by decide +kernel
theorem dX11_allWays_4 : decode cX11_allWays 4 = .ok (.iconst 1, 1) := by decide +kernel
theorem dX11_allWays_5 : decode cX11_allWays 5 = .ok (.aload_n 0, 1) := by decide +kernel
theorem dX11_allWays_6 : decode cX11_allWays 6 = .ok (.invokevirtual 79, 3) := by decide +kernel
theorem dX11_allWays_9 : decode cX11_allWays 9 = .ok (.ishl, 1) := by decide +kernel
theorem dX11_allWays_10 : decode cX11_allWays 10 = .ok (.iconst 1, 1) := by decide +kernel
theorem dX11_allWays_11 : decode cX11_allWays 11 = .ok (.isub, 1) := by decide +kernel
theorem dX11_allWays_12 : decode cX11_allWays 12 = .ok (.istore_n 1, 1) := by decide +kernel
theorem dX11_allWays_13 : decode cX11_allWays 13 = .ok (.iload_n 1, 1) := by decide +kernel
theorem dX11_allWays_14 : decode cX11_allWays 14 = .ok (.ifCond .lt 108, 3) := by decide +kernel
theorem dX11_allWays_17 : decode cX11_allWays 17 = .ok (.iload_n 1, 1) := by decide +kernel
theorem dX11_allWays_18 : decode cX11_allWays 18 = .ok (.invokestatic 325, 3) := by decide +kernel
theorem dX11_allWays_21 : decode cX11_allWays 21 = .ok (.istore_n 2, 1) := by decide +kernel
theorem dX11_allWays_22 : decode cX11_allWays 22 = .ok (.iload_n 2, 1) := by decide +kernel
theorem dX11_allWays_23 : decode cX11_allWays 23 = .ok (.aload_n 0, 1) := by decide +kernel
theorem dX11_allWays_24 : decode cX11_allWays 24 = .ok (.getfield 316, 3) := by decide +kernel
theorem dX11_allWays_27 : decode cX11_allWays 27 = .ok (.if_icmp .le 6, 3) := by decide +kernel
theorem dX11_allWays_30 : decode cX11_allWays 30 = .ok (.goto 86, 3) := by decide +kernel
theorem dX11_allWays_33 : decode cX11_allWays 33 = .ok (.aload_n 0, 1) := by decide +kernel
theorem dX11_allWays_34 : decode cX11_allWays 34 = .ok (.getfield 45, 3) := by decide +kernel
theorem dX11_allWays_37 : decode cX11_allWays 37 = .ok (.iload_n 1, 1) := by decide +kernel
theorem dX11_allWays_38 : decode cX11_allWays 38 = .ok (.iload_n 2, 1) := by decide +kernel
theorem dX11_allWays_39 : decode cX11_allWays 39 = .ok (.aload_n 0, 1) := by decide +kernel
theorem dX11_allWays_40 : decode cX11_allWays 40 = .ok (.getfield 316, 3) := by decide +kernel
theorem dX11_allWays_43 : decode cX11_allWays 43 = .ok (.if_icmp .ne 7, 3) := by decide +kernel
theorem dX11_allWays_46 : decode cX11_allWays 46 = .ok (.lconst 1, 1) := by decide +kernel
theorem dX11_allWays_47 : decode cX11_allWays 47 = .ok (.goto 4, 3) := by decide +kernel
theorem dX11_allWays_50 : decode cX11_allWays 50 = .ok (.lconst 0, 1) := by decide +kernel
theorem dX11_allWays_51 : decode cX11_allWays 51 = .ok (.lastore, 1) := by decide +kernel
theorem dX11_allWays_52 : decode cX11_allWays 52 = .ok (.iconst 0, 1) := by decide +kernel
theorem dX11_allWays_53 : decode cX11_allWays 53 = .ok (.istore_n 3, 1) := by decide +kernel
theorem dX11_allWays_54 : decode cX11_allWays 54 = .ok (.iload_n 3, 1) := by decide +kernel
theorem dX11_allWays_55 : decode cX11_allWays 55 = .ok (.aload_n 0, 1) := by decide +kernel
theorem dX11_allWays_56 : decode cX11_allWays 56 = .ok (.invokevirtual 79, 3) := by decide +kernel
theorem dX11_allWays_59 : decode cX11_allWays 59 = .ok (.if_icmp .ge 57, 3) := by decide +kernel
theorem dX11_allWays_62 : decode cX11_allWays 62 = .ok (.iload_n 2, 1) := by decide +kernel
theorem dX11_allWays_63 : decode cX11_allWays 63 = .ok (.aload_n 0, 1) := by decide +kernel
theorem dX11_allWays_64 : decode cX11_allWays 64 = .ok (.getfield 316, 3) := by decide +kernel
theorem dX11_allWays_67 : decode cX11_allWays 67 = .ok (.if_icmp .ge 49, 3) := by decide +kernel
theorem dX11_allWays_70 : decode cX11_allWays 70 = .ok (.aload_n 0, 1) := by decide +kernel
theorem dX11_allWays_71 : decode cX11_allWays 71 = .ok (.getfield 42, 3) := by decide +kernel
theorem dX11_allWays_74 : decode cX11_allWays 74 = .ok (.iload_n 2, 1) := by decide +kernel
theorem dX11_allWays_75 : decode cX11_allWays 75 = .ok (.iaload, 1) := by decide +kernel
theorem dX11_allWays_76 : decode cX11_allWays 76 = .ok (.iload_n 3, 1) := by decide +kernel
theorem dX11_allWays_77 : decode cX11_allWays 77 = .ok (.invokestatic 310, 3) := by decide +kernel
theorem dX11_allWays_80 : decode cX11_allWays 80 = .ok (.ifCond .eq 30, 3) := by decide +kernel
theorem dX11_allWays_83 : decode cX11_allWays 83 = .ok (.iload_n 1, 1) := by decide +kernel
theorem dX11_allWays_84 : decode cX11_allWays 84 = .ok (.iload_n 3, 1) := by decide +kernel
theorem dX11_allWays_85 : decode cX11_allWays 85 = .ok (.invokestatic 310, 3) := by decide +kernel
theorem dX11_allWays_88 : decode cX11_allWays 88 = .ok (.ifCond .ne 22, 3) := by decide +kernel
theorem dX11_allWays_91 : decode cX11_allWays 91 = .ok (.aload_n 0, 1) := by decide +kernel
theorem dX11_allWays_92 : decode cX11_allWays 92 = .ok (.getfield 45, 3) := by decide +kernel
theorem dX11_allWays_95 : decode cX11_allWays 95 = .ok (.iload_n 1, 1) := by decide +kernel
theorem dX11_allWays_96 : decode cX11_allWays 96 = .ok (.dup2, 1) := by decide +kernel
theorem dX11_allWays_97 : decode cX11_allWays 97 = .ok (.laload, 1) := by decide +kernel
theorem dX11_allWays_98 : decode cX11_allWays 98 = .ok (.aload_n 0, 1) := by decide +kernel
theorem dX11_allWays_99 : decode cX11_allWays 99 = .ok (.getfield 45, 3) := by decide +kernel
theorem dX11_allWays_102 : decode cX11_allWays 102 = .ok (.iload_n 1, 1) := by decide +kernel
theorem dX11_allWays_103 : decode cX11_allWays 103 = .ok (.iconst 1, 1) := by decide +kernel
theorem dX11_allWays_104 : decode cX11_allWays 104 = .ok (.iload_n 3, 1) := by decide +kernel
theorem dX11_allWays_105 : decode cX11_allWays 105 = .ok (.ishl, 1) := by decide +kernel
theorem dX11_allWays_106 : decode cX11_allWays 106 = .ok (.ior, 1) := by decide +kernel
theorem dX11_allWays_107 : decode cX11_allWays 107 = .ok (.laload, 1) := by decide +kernel
theorem dX11_allWays_108 : decode cX11_allWays 108 = .ok (.ladd, 1) := by decide +kernel
theorem dX11_allWays_109 : decode cX11_allWays 109 = .ok (.lastore, 1) := by decide +kernel
theorem dX11_allWays_110 : decode cX11_allWays 110 = .ok (.iinc 3 1, 3) := by decide +kernel
theorem dX11_allWays_113 : decode cX11_allWays 113 = .ok (.goto (-59), 3) := by decide +kernel
theorem dX11_allWays_116 : decode cX11_allWays 116 = .ok (.iinc 1 (-1), 3) := by decide +kernel
theorem dX11_allWays_119 : decode cX11_allWays 119 = .ok (.goto (-106), 3) := by decide +kernel
theorem dX11_allWays_122 : decode cX11_allWays 122 = .ok (.aload_n 0, 1) := by decide +kernel
theorem dX11_allWays_123 : decode cX11_allWays 123 = .ok (.getfield 45, 3) := by decide +kernel
theorem dX11_allWays_126 : decode cX11_allWays 126 = .ok (.iconst 0, 1) := by decide +kernel
theorem dX11_allWays_127 : decode cX11_allWays 127 = .ok (.laload, 1) := by decide +kernel
theorem dX11_allWays_128 : decode cX11_allWays 128 = .ok (.lreturn, 1) := by decide +kernel
set_option maxHeartbeats 4000000 in
set_option maxRecDepth 100000 in
/-- reference: allWays -/
theorem r_allWays (l : Launch) (D : va_G) (cI cJ cB cC : ClassId) (h : Nat) (th : Int32) (aw : Nat) (ai : Nat) (ab : Nat) (ac : Nat) (hi : Int32) (re : Int32) (aP : Nat) (ta : Int32) (po : Int32) (en : Int32) (be : Int32) (de : Int32) (fa : Int32) (a5 : Nat) (sp : Int32) (av : Nat) (an : Nat) (ak : Nat) (ne : Int32) (aW : Nat) (aC : Nat) (ag : Nat) (aT : Nat) (aN : Nat) (aF : Nat) (fw : Nat → Int32) (fv : Nat → Int32) (fn : Nat → Int32) (fk : Nat → Int32) (fW : Nat → Int64) (sz : Nat) (H_fw_W : wW fw) (H_fw_L : wL fw) (H_fn_N : wN fn) : Met l yX11_allWays kwX11_allWays ({ frames := 8, cells := 0, slots := 0, locals := 188 } : Room) (kPre D (kT cI cJ cB cC) sz [(h, oX11 th aw ai ab ac hi re aP ta po en be de fa a5 sp av an ak ne aW aC ag aT aN aF), (aw, kcI cI 2179 fw), (av, kcI cI 400 fv), (an, kcI cI 10 fn), (ak, kcI cI 10 fk), (aW, kcJ cJ 4096 fW)] [.ref h]) (va_Ql (fun (r : Int64) (uu : Int32 × (Nat → Int32) × (Nat → Int32) × (Nat → Int32) × (Nat → Int64)) => match uu with | (n0_, f1_, f2_, f3_, f4_) => Rg n0_ 0 10 ∧ wN f2_ ∧ F_r_allWays (gT fw) (gT fv) (gT fn) (gT fk) fW = (r, (n0_ : Int32).toInt, (gT f1_), (gT f2_), (gT f3_), f4_)) (fun (uu : Int32 × (Nat → Int32) × (Nat → Int32) × (Nat → Int32) × (Nat → Int64)) (t : State) => match uu with | (n0_, f1_, f2_, f3_, f4_) => kB D (kT cI cJ cB cC) (va_A [(h, oX11 th aw ai ab ac hi re aP ta po en be de fa a5 sp av an ak ne aW aC ag aT aN aF), (aw, kcI cI 2179 fw), (av, kcI cI 400 fv), (an, kcI cI 10 fn), (ak, kcI cI 10 fk), (aW, kcJ cJ 4096 fW)] sz) [(h, oX11 th aw ai ab ac hi re aP ta po en be de fa a5 sp av an ak n0_ aW aC ag aT aN aF), (aw, kcI cI 2179 fw), (av, kcI cI 400 f1_), (an, kcI cI 10 f2_), (ak, kcI cI 10 f3_), (aW, kcJ cJ 4096 f4_)] t) (va_A [(h, oX11 th aw ai ab ac hi re aP ta po en be de fa a5 sp av an ak ne aW aC ag aT aN aF), (aw, kcI cI 2179 fw), (av, kcI cI 400 fv), (an, kcI cI 10 fn), (ak, kcI cI 10 fk), (aW, kcJ cJ 4096 fW)] sz)) 0 0 (va_A [(h, oX11 th aw ai ab ac hi re aP ta po en be de fa a5 sp av an ak ne aW aC ag aT aN aF), (aw, kcI cI 2179 fw), (av, kcI cI 400 fv), (an, kcI cI 10 fn), (ak, kcI cI 10 fk), (aW, kcJ cJ 4096 fW)] sz) := by
  refine Met.ofW (cc := cX11_allWays) (maxL := 4) (ret := (some .long)) (by decide) rfl ?_
  intro p e s m args below meth c s₁ B hml hv
  obtain ⟨rfl, hsz, hN, hE, hP, hK, hD0⟩ := hv
  have hx := B.exec
  have hb := B.bytes
  have hr := B.returns
  have hts := fun (w : Cond) (h : w ∈ kG) => atoms_spec (ws := kwX11_allWays) B.pre w (List.mem_cons_of_mem _ h)
  have hown : s.vm.findClass RX11 = some m.cls := findClass_of_methodNamed B.named
  subst hsz
  have hD := hD0.self (sz := s.heap.size)
  generalize hAe : va_A [(h, oX11 th aw ai ab ac hi re aP ta po en be de fa a5 sp av an ak ne aW aC ag aT aN aF), (aw, kcI cI 2179 fw), (av, kcI cI 400 fv), (an, kcI cI 10 fn), (ak, kcI cI 10 fk), (aW, kcJ cJ 4096 fW)] s.heap.size = A at hD hE ⊢
  have hA : ∀ q : Nat, s.heap.size ≤ q → A q := fun q h => by rw [← hAe]; exact Or.inr h
  have hl := lv_entry ([.ref h]) (n := 4) (Nat.le_of_ble_eq_true rfl)
  rw [lg_entry_eq]
  generalize (lg_sl ([.ref h]) ++ List.replicate (4 - (lg_sl ([.ref h])).length) Slot.unset).toArray = ls at hl ⊢
  have hl : lv_has ls 4 [(0, .ref h)] := hl
  obtain ⟨H, hH0⟩ : ∃ H, H = s.heap := ⟨_, rfl⟩
  have hS : va_S A s.heap H [] := by rw [hH0]; exact va_S.rf
  have hP : va_P D vwCl [(h, oX11 th aw ai ab ac hi re aP ta po en be de fa a5 sp av an ak ne aW aC ag aT aN aF), (aw, kcI cI 2179 fw), (av, kcI cI 400 fv), (an, kcI cI 10 fn), (ak, kcI cI 10 fk), (aW, kcJ cJ 4096 fW)] H := by rw [hH0]; exact hP
  refine kHeap hH0 ?_
  clear hH0
  refine lv_aload_n hx hb dX11_allWays_0 rfl (lv_at hl 0 rfl) ?_
  refine kcallv (wc := [(h, oX11 th aw ai ab ac hi re aP ta po en be de fa a5 sp av an ak ne aW aC ag aT aN aF), (aw, kcI cI 2179 fw), (av, kcI cI 400 fv), (an, kcI cI 10 fn), (ak, kcI cI 10 fk)]) (wr := [(aW, kcJ cJ 4096 fW)]) hP hD hS hA [0, 1, 2, 3, 4] [5] rfl rfl (by decide) (by decide) (by decide) (fun hPc hDc hFc => va_runV (As := []) (rest := []) ⟨hx, hb, hml, hown, hts⟩ (r_looks l D cI cJ cB cC h th aw ai ab ac hi re aP ta po en be de fa a5 sp av an ak ne aW aC ag aT aN aF fw fv fn fk H.size H_fw_W H_fw_L H_fn_N) (cwV 0 hts gX11_allWays_X11_looks rfl rfl rfl ⟨rfl, hdX11_looks⟩ ⟨Nat.le_of_ble_eq_true rfl, Nat.le_of_ble_eq_true rfl⟩) ⟨kBlind, va_recv hK hPc (ci := 10) (q0 := 0) rfl rfl, fun U hU hW => ⟨rfl, by rw [hU], hN.warm hW, hE.pass hS hFc hW hU, by rw [hU]; exact hPc, va_K.moved hW.alike hK, hDc⟩⟩ rfl rfl hl.1 rfl (lv_room (Nat.le_of_ble_eq_true rfl)) dX11_allWays_1 ⟨Nat.le_of_ble_eq_true rfl, Nat.le_of_ble_eq_true rfl⟩) (fun u H locs hw hP hD hS => ?_)
  obtain ⟨x1, g2, g3, g4⟩ := u
  have hP : va_P D vwCl [(aW, kcJ cJ 4096 fW), (h, oX11 th aw ai ab ac hi re aP ta po en be de fa a5 sp av an ak x1 aW aC ag aT aN aF), (aw, kcI cI 2179 fw), (av, kcI cI 400 g2), (an, kcI cI 10 g3), (ak, kcI cI 10 g4)] H := hP
  have hD : va_D A [(aW, kcJ cJ 4096 fW), (h, oX11 th aw ai ab ac hi re aP ta po en be de fa a5 sp av an ak x1 aW aC ag aT aN aF), (aw, kcI cI 2179 fw), (av, kcI cI 400 g2), (an, kcI cI 10 g3), (ak, kcI cI 10 g4)] := hD
  obtain ⟨k5, k6, k7⟩ := hw
  refine lv_iconst (v := 1) hx hb dX11_allWays_4 (by decide) ?_
  refine lv_aload_n hx hb dX11_allWays_5 rfl (lv_at hl 0 rfl) ?_
  refine kpurei (wc := [(h, oX11 th aw ai ab ac hi re aP ta po en be de fa a5 sp av an ak x1 aW aC ag aT aN aF), (aw, kcI cI 2179 fw)]) hP hD hS hA [1, 2] rfl (by decide) (fun hPc hDc hFc => va_runV (As := []) (rest := [.int 1]) ⟨hx, hb, hml, hown, hts⟩ (r_shirts l D cI cJ cB cC h th aw ai ab ac hi re aP ta po en be de fa a5 sp av an ak x1 aW aC ag aT aN aF fw H.size H_fw_W) (cwV 0 hts gX11_allWays_X11_shirts rfl rfl rfl ⟨rfl, hdX11_shirts⟩ ⟨Nat.le_of_ble_eq_true rfl, Nat.le_of_ble_eq_true rfl⟩) ⟨kBlind, va_recv hK hPc (ci := 10) (q0 := 0) rfl rfl, fun U hU hW => ⟨rfl, by rw [hU], hN.warm hW, hE.pass hS hFc hW hU, by rw [hU]; exact hPc, va_K.moved hW.alike hK, hDc⟩⟩ rfl rfl hl.1 rfl (lv_room (Nat.le_of_ble_eq_true rfl)) dX11_allWays_6 ⟨Nat.le_of_ble_eq_true rfl, Nat.le_of_ble_eq_true rfl⟩) (fun r8 u H locs hw hP hS => ?_)
  obtain ⟨k9, k10, k11⟩ := hw
  refine lv_ishl hx hb dX11_allWays_9 ?_
  refine lv_topi (fun x12 ex12 => ?_)
  have k13 : Rg x12 1 4096 := rg_shl1 12 ex12 k10 (by decide)
  refine lv_iconst (v := 1) hx hb dX11_allWays_10 (by decide) ?_
  refine lv_isub hx hb dX11_allWays_11 ?_
  refine lv_topi (fun x14 ex14 => ?_)
  have k15 : Rg x14 0 4095 := rg_sub ex14 k13 (rg_lit (n := 1) (by decide)) (by decide)
  refine lv_istore_n (lv' := [(1, .int x14), (0, .ref h)]) hx hb dX11_allWays_12 rfl hl (by decide) rfl (fun ls hl => ?_)
  refine k_loop (hd := 13) (fun (u : Int32 × (Nat → Int64)) => match u with | (y2508, g2509) => ((y2508).toInt - (-1)).toNat) (fun (u : Int32 × (Nat → Int64)) (H : Heap) (locs : List Loc) (ls : Array Slot) => match u with | (y2508, g2509) => (F_r_allWays (gT fw) (gT fv) (gT fn) (gT fk) fW = F_r_allWays_l1 (gT fw) x1.toInt (gT g2) (gT g3) (gT g4) r8.toInt (y2508.toInt, g2509)) ∧ Rg y2508 (-1) 4095 ∧ va_P D vwCl [(aW, kcJ cJ 4096 g2509), (h, oX11 th aw ai ab ac hi re aP ta po en be de fa a5 sp av an ak x1 aW aC ag aT aN aF), (aw, kcI cI 2179 fw), (av, kcI cI 400 g2), (an, kcI cI 10 g3), (ak, kcI cI 10 g4)] H ∧ va_D A [(aW, kcJ cJ 4096 g2509), (h, oX11 th aw ai ab ac hi re aP ta po en be de fa a5 sp av an ak x1 aW aC ag aT aN aF), (aw, kcI cI 2179 fw), (av, kcI cI 400 g2), (an, kcI cI 10 g3), (ak, kcI cI 10 g4)] ∧ va_S A s.heap H locs ∧ lv_has ls 4 [(1, .int y2508), (0, .ref h)]) (x14, fW) ⟨(kC_eq k7 (kC_eq rfl (kC_eq rfl (kLet_eq (k11).symm (kLet_eq (ke_shl ex12) (kLet_eq (ti_sub ex14 k13 (rg_lit (n := 1) (by decide)) (by decide) rfl rfl) rfl)))))), (rg_w k15 (by decide)), hP.sub (ws' := [(aW, kcJ cJ 4096 fW), (h, oX11 th aw ai ab ac hi re aP ta po en be de fa a5 sp av an ak x1 aW aC ag aT aN aF), (aw, kcI cI 2179 fw), (av, kcI cI 400 g2), (an, kcI cI 10 g3), (ak, kcI cI 10 g4)]) [0, 1, 2, 3, 4, 5] rfl, hD.sub (ws' := [(aW, kcJ cJ 4096 fW), (h, oX11 th aw ai ab ac hi re aP ta po en be de fa a5 sp av an ak x1 aW aC ag aT aN aF), (aw, kcI cI 2179 fw), (av, kcI cI 400 g2), (an, kcI cI 10 g3), (ak, kcI cI 10 g4)]) [0, 1, 2, 3, 4, 5] (by decide) rfl, hS, lv_sub (l' := [(1, .int x14), (0, .ref h)]) hl [0, 1] rfl⟩ (fun u H locs ls hI ih2510 => ?_)
  clear hP hD hS hl
  obtain ⟨y2508, g2509⟩ := u
  obtain ⟨hF1, hy2508, hP, hD, hS, hl⟩ := hI
  have hP : va_P D vwCl [(aW, kcJ cJ 4096 g2509), (h, oX11 th aw ai ab ac hi re aP ta po en be de fa a5 sp av an ak x1 aW aC ag aT aN aF), (aw, kcI cI 2179 fw), (av, kcI cI 400 g2), (an, kcI cI 10 g3), (ak, kcI cI 10 g4)] H := hP
  have hD : va_D A [(aW, kcJ cJ 4096 g2509), (h, oX11 th aw ai ab ac hi re aP ta po en be de fa a5 sp av an ak x1 aW aC ag aT aN aF), (aw, kcI cI 2179 fw), (av, kcI cI 400 g2), (an, kcI cI 10 g3), (ak, kcI cI 10 g4)] := hD
  have hl : lv_has ls 4 [(1, .int y2508), (0, .ref h)] := hl
  refine lv_iload_n hx hb dX11_allWays_13 rfl (lv_at hl 0 rfl) ?_
  refine lv_if_lt (tgt := 122) hx hb dX11_allWays_14 (by decide) (fun c2511 => ?_) (fun c2511 => ?_)
  · skip
    have k2512 : Rg y2508 (-1) (-1) := rg_l1 (ltI c2511) hy2508 (rg_lit (n := 0) (by decide)) (by decide)
    refine lv_aload_n hx hb dX11_allWays_122 rfl (lv_at hl 1 rfl) ?_
    refine va_get (D := D) (ci := 10) (v := .ref aW) (C := RX11) (T := TX11) (N := 26) hx hb hts iG_X11 hown hK hP 1 rfl rfl 20 (by decide) (hts _ w5_14) (fun _ h9 => h9) rfl dX11_allWays_123 ?_
    refine lv_iconst (v := 0) hx hb dX11_allWays_126 (by decide) ?_
    refine va_lald hx hb hK hP 0 1 rfl rfl (rg_in (rg_lit (n := 0) (by decide)) (by decide)) dX11_allWays_127 ?_
    refine lv_topl (fun x2513 ex2513 => ?_)
    have hP9 := hP.sub (ws' := [(h, oX11 th aw ai ab ac hi re aP ta po en be de fa a5 sp av an ak x1 aW aC ag aT aN aF), (aw, kcI cI 2179 fw), (av, kcI cI 400 g2), (an, kcI cI 10 g3), (ak, kcI cI 10 g4), (aW, kcJ cJ 4096 g2509)]) [1, 2, 3, 4, 5, 0] rfl
    have hD9 := hD.sub (ws' := [(h, oX11 th aw ai ab ac hi re aP ta po en be de fa a5 sp av an ak x1 aW aC ag aT aN aF), (aw, kcI cI 2179 fw), (av, kcI cI 400 g2), (an, kcI cI 10 g3), (ak, kcI cI 10 g4), (aW, kcJ cJ 4096 g2509)]) [1, 2, 3, 4, 5, 0] (by decide) rfl
    exact W.lret (v := x2513) hx hb hr (fun t ht hW => ⟨⟨x2513, (x1, g2, g3, g4, g2509), rfl, ⟨k5, k6, (hF1.trans (kIter_out (kC_eq rfl (kif_t (ltI c2511) (kLet_eq (ke_ldL ex2513) rfl)))))⟩, by rw [ht]; exact hP9, va_K.moved hW.alike hK, hD9⟩, hS.F ht⟩) hS.2.2 dX11_allWays_128
  · skip
    have k2514 : Rg y2508 0 4095 := rg_e2 (nltI c2511) (rg_lit (n := 0) (by decide)) hy2508 (by decide)
    refine lv_iload_n hx hb dX11_allWays_17 rfl (lv_at hl 0 rfl) ?_
    refine kpurei (wc := []) hP hD hS hA [] rfl (by decide) (fun hPc hDc hFc => va_runS (As := [.int y2508]) (rest := []) ⟨hx, hb, hml, hown, hts⟩ (z_bitCount l D cI cJ cB cC y2508 H.size) (va_cwS 1 hts gX11_allWays_J6_bitCount_0f7a4 rfl rfl rfl hdJ6_bitCount_0f7a4 ⟨Nat.le_of_ble_eq_true rfl, Nat.le_of_ble_eq_true rfl⟩) ⟨kBlind, fun U hU hW => ⟨rfl, by rw [hU], hN.warm hW, hE.pass hS hFc hW hU, by rw [hU]; exact hPc, va_K.moved hW.alike hK, hDc⟩⟩ rfl rfl hl.1 rfl (lv_room (Nat.le_of_ble_eq_true rfl)) dX11_allWays_18 ⟨Nat.le_of_ble_eq_true rfl, Nat.le_of_ble_eq_true rfl⟩) (fun r2515 u H locs hw hP hS => ?_)
    obtain ⟨k2516, k2517⟩ := hw
    refine lv_istore_n (lv' := [(2, .int r2515), (1, .int y2508), (0, .ref h)]) hx hb dX11_allWays_21 rfl hl (by decide) rfl (fun ls hl => ?_)
    refine lv_iload_n hx hb dX11_allWays_22 rfl (lv_at hl 0 rfl) ?_
    refine lv_aload_n hx hb dX11_allWays_23 rfl (lv_at hl 2 rfl) ?_
    refine va_get (D := D) (ci := 10) (v := .int x1) (C := RX11) (T := TX11) (N := 26) hx hb hts iG_X11 hown hK hP 1 rfl rfl 19 (by decide) (hts _ w40_11) (fun _ h9 => h9) rfl dX11_allWays_24 ?_
    refine k_join (hd := 116) (cells2 := 0) (slots2 := 0) (fun (g3132 : (Nat → Int64)) => []) (fun (g3132 : (Nat → Int64)) (H : Heap) (locs : List Loc) (ls : Array Slot) => (F_r_allWays_l1_s (gT fw) x1.toInt (gT g2) (gT g3) (gT g4) r8.toInt (y2508.toInt, g2509) = F_r_allWays_j2 y2508.toInt g3132) ∧ va_P D vwCl [(aW, kcJ cJ 4096 g3132), (h, oX11 th aw ai ab ac hi re aP ta po en be de fa a5 sp av an ak x1 aW aC ag aT aN aF), (aw, kcI cI 2179 fw), (av, kcI cI 400 g2), (an, kcI cI 10 g3), (ak, kcI cI 10 g4)] H ∧ va_D A [(aW, kcJ cJ 4096 g3132), (h, oX11 th aw ai ab ac hi re aP ta po en be de fa a5 sp av an ak x1 aW aC ag aT aN aF), (aw, kcI cI 2179 fw), (av, kcI cI 400 g2), (an, kcI cI 10 g3), (ak, kcI cI 10 g4)] ∧ va_S A s.heap H locs ∧ lv_has ls 4 [(2, .int r2515), (1, .int y2508), (0, .ref h)]) (fun u H locs ls hI => ?_) (fun hJ116 => ?_)
    · skip
      clear hP hD hS hl
      obtain ⟨g3132, rfl⟩ : ∃ z, z = u := ⟨_, rfl⟩
      obtain ⟨hF2, hP, hD, hS, hl⟩ := hI
      have hP : va_P D vwCl [(aW, kcJ cJ 4096 g3132), (h, oX11 th aw ai ab ac hi re aP ta po en be de fa a5 sp av an ak x1 aW aC ag aT aN aF), (aw, kcI cI 2179 fw), (av, kcI cI 400 g2), (an, kcI cI 10 g3), (ak, kcI cI 10 g4)] H := hP
      have hD : va_D A [(aW, kcJ cJ 4096 g3132), (h, oX11 th aw ai ab ac hi re aP ta po en be de fa a5 sp av an ak x1 aW aC ag aT aN aF), (aw, kcI cI 2179 fw), (av, kcI cI 400 g2), (an, kcI cI 10 g3), (ak, kcI cI 10 g4)] := hD
      have hl : lv_has ls 4 [(2, .int r2515), (1, .int y2508), (0, .ref h)] := hl
      obtain ⟨x3133, ex3133⟩ : ∃ y : Int32, y = y2508 + (-1) := ⟨_, rfl⟩
      refine lv_iinc (v := x3133) (lv' := [(1, .int x3133), (2, .int r2515), (0, .ref h)]) hx hb dX11_allWays_116 hl (k := 1) rfl (by rw [ex3133]; rfl) (by decide) rfl (fun ls hl => ?_)
      have k3134 : Rg x3133 (-1) 4094 := rg_add ex3133 k2514 (rg_lit (n := -1) (by decide)) (by decide)
      refine lv_goto (tgt := 13) hx hb dX11_allWays_119 (by decide) ?_
      exact ih2510 (x3133, g3132) _ _ _ (by show ((x3133).toInt - (-1)).toNat < ((y2508).toInt - (-1)).toNat; exact mu_dn ex3133 k2514 k3134 (by decide)) ⟨(hF1.trans (kIter_go (hF2.trans (kLet_eq (ti_add ex3133 k2514 (rg_lit (n := -1) (by decide)) (by decide) rfl rfl) rfl)))), (rg_w k3134 (by decide)), hP.sub (ws' := [(aW, kcJ cJ 4096 g3132), (h, oX11 th aw ai ab ac hi re aP ta po en be de fa a5 sp av an ak x1 aW aC ag aT aN aF), (aw, kcI cI 2179 fw), (av, kcI cI 400 g2), (an, kcI cI 10 g3), (ak, kcI cI 10 g4)]) [0, 1, 2, 3, 4, 5] rfl, hD.sub (ws' := [(aW, kcJ cJ 4096 g3132), (h, oX11 th aw ai ab ac hi re aP ta po en be de fa a5 sp av an ak x1 aW aC ag aT aN aF), (aw, kcI cI 2179 fw), (av, kcI cI 400 g2), (an, kcI cI 10 g3), (ak, kcI cI 10 g4)]) [0, 1, 2, 3, 4, 5] (by decide) rfl, hS, lv_sub (l' := [(1, .int x3133), (0, .ref h)]) hl [0, 2] rfl⟩
    refine lv_icmp_le (tgt := 33) hx hb dX11_allWays_27 (by decide) (fun c3135 => ?_) (fun c3135 => ?_)
    · skip
      have k3136 : Rg r2515 0 10 := rg_e1 (leI c3135) k2516 k5 (by decide)
      refine lv_aload_n hx hb dX11_allWays_33 rfl (lv_at hl 2 rfl) ?_
      refine va_get (D := D) (ci := 10) (v := .ref aW) (C := RX11) (T := TX11) (N := 26) hx hb hts iG_X11 hown hK hP 1 rfl rfl 20 (by decide) (hts _ w5_14) (fun _ h9 => h9) rfl dX11_allWays_34 ?_
      refine lv_iload_n hx hb dX11_allWays_37 rfl (lv_at hl 1 rfl) ?_
      refine lv_iload_n hx hb dX11_allWays_38 rfl (lv_at hl 0 rfl) ?_
      refine lv_aload_n hx hb dX11_allWays_39 rfl (lv_at hl 2 rfl) ?_
      refine va_get (D := D) (ci := 10) (v := .int x1) (C := RX11) (T := TX11) (N := 26) hx hb hts iG_X11 hown hK hP 1 rfl rfl 19 (by decide) (hts _ w40_11) (fun _ h9 => h9) rfl dX11_allWays_40 ?_
      refine k_join (hd := 51) (cells2 := 0) (slots2 := 0) (fun (u : Int64 × Int32) => match u with | (z3140, z3141) => [.long z3140, .int z3141, .ref aW]) (fun (u : Int64 × Int32) (H : Heap) (locs : List Loc) (ls : Array Slot) => match u with | (z3140, z3141) => (F_r_allWays_l1_s (gT fw) x1.toInt (gT g2) (gT g3) (gT g4) r8.toInt (y2508.toInt, g2509) = F_r_allWays_j3 (gT fw) x1.toInt (gT g4) r8.toInt y2508.toInt g2509 r2515.toInt z3140 z3141.toInt) ∧ Rg z3141 0 4095 ∧ va_P D vwCl [(aW, kcJ cJ 4096 g2509), (h, oX11 th aw ai ab ac hi re aP ta po en be de fa a5 sp av an ak x1 aW aC ag aT aN aF), (aw, kcI cI 2179 fw), (av, kcI cI 400 g2), (an, kcI cI 10 g3), (ak, kcI cI 10 g4)] H ∧ va_D A [(aW, kcJ cJ 4096 g2509), (h, oX11 th aw ai ab ac hi re aP ta po en be de fa a5 sp av an ak x1 aW aC ag aT aN aF), (aw, kcI cI 2179 fw), (av, kcI cI 400 g2), (an, kcI cI 10 g3), (ak, kcI cI 10 g4)] ∧ va_S A s.heap H locs ∧ lv_has ls 4 [(2, .int r2515), (1, .int y2508), (0, .ref h)]) (fun u H locs ls hI => ?_) (fun hJ51 => ?_)
      · skip
        clear hP hD hS hl
        obtain ⟨z3140, z3141⟩ := u
        obtain ⟨hF3, hz3141, hP, hD, hS, hl⟩ := hI
        have hP : va_P D vwCl [(aW, kcJ cJ 4096 g2509), (h, oX11 th aw ai ab ac hi re aP ta po en be de fa a5 sp av an ak x1 aW aC ag aT aN aF), (aw, kcI cI 2179 fw), (av, kcI cI 400 g2), (an, kcI cI 10 g3), (ak, kcI cI 10 g4)] H := hP
        have hD : va_D A [(aW, kcJ cJ 4096 g2509), (h, oX11 th aw ai ab ac hi re aP ta po en be de fa a5 sp av an ak x1 aW aC ag aT aN aF), (aw, kcI cI 2179 fw), (av, kcI cI 400 g2), (an, kcI cI 10 g3), (ak, kcI cI 10 g4)] := hD
        have hl : lv_has ls 4 [(2, .int r2515), (1, .int y2508), (0, .ref h)] := hl
        show W _ _ _ _ _ _ _ _ _ _ _ _ _ _ _ (F0 m 51 ls [.long z3140, .int z3141, .ref aW])
        refine va_last hx hb hK hP hD hS 0 1 rfl rfl (rg_in hz3141 (by decide)) dX11_allWays_51 (fun H locs hP hD hS => ?_)
        have hP : va_P D vwCl [(aW, kcJ cJ 4096 (vp_updL g2509 z3141.toNatClampNeg z3140)), (h, oX11 th aw ai ab ac hi re aP ta po en be de fa a5 sp av an ak x1 aW aC ag aT aN aF), (aw, kcI cI 2179 fw), (av, kcI cI 400 g2), (an, kcI cI 10 g3), (ak, kcI cI 10 g4)] H := hP
        have hD : va_D A [(aW, kcJ cJ 4096 (vp_updL g2509 z3141.toNatClampNeg z3140)), (h, oX11 th aw ai ab ac hi re aP ta po en be de fa a5 sp av an ak x1 aW aC ag aT aN aF), (aw, kcI cI 2179 fw), (av, kcI cI 400 g2), (an, kcI cI 10 g3), (ak, kcI cI 10 g4)] := hD
        generalize hg3142 : (vp_updL g2509 z3141.toNatClampNeg z3140) = g3142 at hP hD
        refine lv_iconst (v := 0) hx hb dX11_allWays_52 (by decide) ?_
        refine lv_istore_n (lv' := [(3, .int 0), (2, .int r2515), (1, .int y2508), (0, .ref h)]) hx hb dX11_allWays_53 rfl hl (by decide) rfl (fun ls hl => ?_)
        refine k_loop (hd := 54) (fun (u : Int32 × (Nat → Int64)) => match u with | (y3713, g3714) => (12 - (y3713).toInt).toNat) (fun (u : Int32 × (Nat → Int64)) (H : Heap) (locs : List Loc) (ls : Array Slot) => match u with | (y3713, g3714) => (F_r_allWays_l1_s (gT fw) x1.toInt (gT g2) (gT g3) (gT g4) r8.toInt (y2508.toInt, g2509) = F_r_allWays_l4 (gT fw) x1.toInt (gT g4) r8.toInt y2508.toInt r2515.toInt (y3713.toInt, g3714)) ∧ Rg y3713 0 12 ∧ va_P D vwCl [(aW, kcJ cJ 4096 g3714), (h, oX11 th aw ai ab ac hi re aP ta po en be de fa a5 sp av an ak x1 aW aC ag aT aN aF), (aw, kcI cI 2179 fw), (av, kcI cI 400 g2), (an, kcI cI 10 g3), (ak, kcI cI 10 g4)] H ∧ va_D A [(aW, kcJ cJ 4096 g3714), (h, oX11 th aw ai ab ac hi re aP ta po en be de fa a5 sp av an ak x1 aW aC ag aT aN aF), (aw, kcI cI 2179 fw), (av, kcI cI 400 g2), (an, kcI cI 10 g3), (ak, kcI cI 10 g4)] ∧ va_S A s.heap H locs ∧ lv_has ls 4 [(3, .int y3713), (2, .int r2515), (1, .int y2508), (0, .ref h)]) ((0 : Int32), g3142) ⟨(hF3.trans (kLet_eq (ke_stL hg3142) rfl)), (rg_w (rg_lit (n := 0) (by decide)) (by decide)), hP.sub (ws' := [(aW, kcJ cJ 4096 g3142), (h, oX11 th aw ai ab ac hi re aP ta po en be de fa a5 sp av an ak x1 aW aC ag aT aN aF), (aw, kcI cI 2179 fw), (av, kcI cI 400 g2), (an, kcI cI 10 g3), (ak, kcI cI 10 g4)]) [0, 1, 2, 3, 4, 5] rfl, hD.sub (ws' := [(aW, kcJ cJ 4096 g3142), (h, oX11 th aw ai ab ac hi re aP ta po en be de fa a5 sp av an ak x1 aW aC ag aT aN aF), (aw, kcI cI 2179 fw), (av, kcI cI 400 g2), (an, kcI cI 10 g3), (ak, kcI cI 10 g4)]) [0, 1, 2, 3, 4, 5] (by decide) rfl, hS, lv_sub (l' := [(3, .int 0), (2, .int r2515), (1, .int y2508), (0, .ref h)]) hl [0, 1, 2, 3] rfl⟩ (fun u H locs ls hI ih3715 => ?_)
        clear hP hD hS hl
        obtain ⟨y3713, g3714⟩ := u
        obtain ⟨hF4, hy3713, hP, hD, hS, hl⟩ := hI
        have hP : va_P D vwCl [(aW, kcJ cJ 4096 g3714), (h, oX11 th aw ai ab ac hi re aP ta po en be de fa a5 sp av an ak x1 aW aC ag aT aN aF), (aw, kcI cI 2179 fw), (av, kcI cI 400 g2), (an, kcI cI 10 g3), (ak, kcI cI 10 g4)] H := hP
        have hD : va_D A [(aW, kcJ cJ 4096 g3714), (h, oX11 th aw ai ab ac hi re aP ta po en be de fa a5 sp av an ak x1 aW aC ag aT aN aF), (aw, kcI cI 2179 fw), (av, kcI cI 400 g2), (an, kcI cI 10 g3), (ak, kcI cI 10 g4)] := hD
        have hl : lv_has ls 4 [(3, .int y3713), (2, .int r2515), (1, .int y2508), (0, .ref h)] := hl
        refine lv_iload_n hx hb dX11_allWays_54 rfl (lv_at hl 0 rfl) ?_
        refine lv_aload_n hx hb dX11_allWays_55 rfl (lv_at hl 3 rfl) ?_
        refine kpurei (wc := [(h, oX11 th aw ai ab ac hi re aP ta po en be de fa a5 sp av an ak x1 aW aC ag aT aN aF), (aw, kcI cI 2179 fw)]) hP hD hS hA [1, 2] rfl (by decide) (fun hPc hDc hFc => va_runV (As := []) (rest := [.int y3713]) ⟨hx, hb, hml, hown, hts⟩ (r_shirts l D cI cJ cB cC h th aw ai ab ac hi re aP ta po en be de fa a5 sp av an ak x1 aW aC ag aT aN aF fw H.size H_fw_W) (cwV 0 hts gX11_allWays_X11_shirts rfl rfl rfl ⟨rfl, hdX11_shirts⟩ ⟨Nat.le_of_ble_eq_true rfl, Nat.le_of_ble_eq_true rfl⟩) ⟨kBlind, va_recv hK hPc (ci := 10) (q0 := 0) rfl rfl, fun U hU hW => ⟨rfl, by rw [hU], hN.warm hW, hE.pass hS hFc hW hU, by rw [hU]; exact hPc, va_K.moved hW.alike hK, hDc⟩⟩ rfl rfl hl.1 rfl (lv_room (Nat.le_of_ble_eq_true rfl)) dX11_allWays_56 ⟨Nat.le_of_ble_eq_true rfl, Nat.le_of_ble_eq_true rfl⟩) (fun r3716 u H locs hw hP hS => ?_)
        obtain ⟨k3717, k3718, k3719⟩ := hw
        obtain rfl : r8 = r3716 := k9.trans k3717.symm
        refine lv_icmp_ge (tgt := 116) hx hb dX11_allWays_59 (by decide) (fun c3720 => ?_) (fun c3720 => ?_)
        · skip
          exact hJ116 (g3714) _ _ _ ⟨(hF4.trans (kIter_out (kC_eq rfl (kLet_eq (k3719).symm (kif_t (leI c3720) rfl))))), hP.sub (ws' := [(aW, kcJ cJ 4096 g3714), (h, oX11 th aw ai ab ac hi re aP ta po en be de fa a5 sp av an ak x1 aW aC ag aT aN aF), (aw, kcI cI 2179 fw), (av, kcI cI 400 g2), (an, kcI cI 10 g3), (ak, kcI cI 10 g4)]) [0, 1, 2, 3, 4, 5] rfl, hD.sub (ws' := [(aW, kcJ cJ 4096 g3714), (h, oX11 th aw ai ab ac hi re aP ta po en be de fa a5 sp av an ak x1 aW aC ag aT aN aF), (aw, kcI cI 2179 fw), (av, kcI cI 400 g2), (an, kcI cI 10 g3), (ak, kcI cI 10 g4)]) [0, 1, 2, 3, 4, 5] (by decide) rfl, hS, lv_sub (l' := [(2, .int r2515), (1, .int y2508), (0, .ref h)]) hl [1, 2, 3] rfl⟩
        · skip
          have k3721 : Rg y3713 0 11 := rg_l1 (nleI c3720) hy3713 k10 (by decide)
          have k3722 : Rg r8 1 12 := rg_l2 (nleI c3720) hy3713 k10 (by decide)
          refine lv_iload_n hx hb dX11_allWays_62 rfl (lv_at hl 1 rfl) ?_
          refine lv_aload_n hx hb dX11_allWays_63 rfl (lv_at hl 3 rfl) ?_
          refine va_get (D := D) (ci := 10) (v := .int x1) (C := RX11) (T := TX11) (N := 26) hx hb hts iG_X11 hown hK hP 1 rfl rfl 19 (by decide) (hts _ w40_11) (fun _ h9 => h9) rfl dX11_allWays_64 ?_
          refine lv_icmp_ge (tgt := 116) hx hb dX11_allWays_67 (by decide) (fun c3723 => ?_) (fun c3723 => ?_)
          · skip
            exact hJ116 (g3714) _ _ _ ⟨(hF4.trans (kIter_out (kC_eq rfl (kLet_eq (k3719).symm (kif_f (xF_le c3720) (kif_t (leI c3723) rfl)))))), hP.sub (ws' := [(aW, kcJ cJ 4096 g3714), (h, oX11 th aw ai ab ac hi re aP ta po en be de fa a5 sp av an ak x1 aW aC ag aT aN aF), (aw, kcI cI 2179 fw), (av, kcI cI 400 g2), (an, kcI cI 10 g3), (ak, kcI cI 10 g4)]) [0, 1, 2, 3, 4, 5] rfl, hD.sub (ws' := [(aW, kcJ cJ 4096 g3714), (h, oX11 th aw ai ab ac hi re aP ta po en be de fa a5 sp av an ak x1 aW aC ag aT aN aF), (aw, kcI cI 2179 fw), (av, kcI cI 400 g2), (an, kcI cI 10 g3), (ak, kcI cI 10 g4)]) [0, 1, 2, 3, 4, 5] (by decide) rfl, hS, lv_sub (l' := [(2, .int r2515), (1, .int y2508), (0, .ref h)]) hl [1, 2, 3] rfl⟩
          · skip
            have k3724 : Rg r2515 0 9 := rg_l1 (nleI c3723) k3136 k5 (by decide)
            have k3725 : Rg x1 1 10 := rg_l2 (nleI c3723) k3136 k5 (by decide)
            refine lv_aload_n hx hb dX11_allWays_70 rfl (lv_at hl 3 rfl) ?_
            refine va_get (D := D) (ci := 10) (v := .ref ak) (C := RX11) (T := TX11) (N := 26) hx hb hts iG_X11 hown hK hP 1 rfl rfl 18 (by decide) (hts _ w5_13) (fun _ h9 => h9) rfl dX11_allWays_71 ?_
            refine lv_iload_n hx hb dX11_allWays_74 rfl (lv_at hl 1 rfl) ?_
            refine va_iald hx hb hK hP 5 0 rfl rfl (rg_in k3724 (by decide)) dX11_allWays_75 ?_
            refine lv_topi (fun x3726 ex3726 => ?_)
            refine lv_iload_n hx hb dX11_allWays_76 rfl (lv_at hl 0 rfl) ?_
            refine kpurei (wc := []) hP hD hS hA [] rfl (by decide) (fun hPc hDc hFc => va_runS (As := [.int x3726, .int y3713]) (rest := []) ⟨hx, hb, hml, hown, hts⟩ (r_has l D cI cJ cB cC x3726 y3713 H.size) (va_cwS 2 hts gX11_allWays_X11_has rfl rfl rfl hdX11_has ⟨Nat.le_of_ble_eq_true rfl, Nat.le_of_ble_eq_true rfl⟩) ⟨kBlind, fun U hU hW => ⟨rfl, by rw [hU], hN.warm hW, hE.pass hS hFc hW hU, by rw [hU]; exact hPc, va_K.moved hW.alike hK, hDc⟩⟩ rfl rfl hl.1 rfl (lv_room (Nat.le_of_ble_eq_true rfl)) dX11_allWays_77 ⟨Nat.le_of_ble_eq_true rfl, Nat.le_of_ble_eq_true rfl⟩) (fun r3727 u H locs hw hP hS => ?_)
            obtain ⟨k3728, k3729⟩ := hw
            refine k_join (hd := 110) (cells2 := 0) (slots2 := 0) (fun (g3748 : (Nat → Int64)) => []) (fun (g3748 : (Nat → Int64)) (H : Heap) (locs : List Loc) (ls : Array Slot) => (F_r_allWays_l4_s (gT fw) x1.toInt (gT g4) r8.toInt y2508.toInt r2515.toInt (y3713.toInt, g3714) = F_r_allWays_j5 y3713.toInt g3748) ∧ va_P D vwCl [(aW, kcJ cJ 4096 g3748), (h, oX11 th aw ai ab ac hi re aP ta po en be de fa a5 sp av an ak x1 aW aC ag aT aN aF), (aw, kcI cI 2179 fw), (av, kcI cI 400 g2), (an, kcI cI 10 g3), (ak, kcI cI 10 g4)] H ∧ va_D A [(aW, kcJ cJ 4096 g3748), (h, oX11 th aw ai ab ac hi re aP ta po en be de fa a5 sp av an ak x1 aW aC ag aT aN aF), (aw, kcI cI 2179 fw), (av, kcI cI 400 g2), (an, kcI cI 10 g3), (ak, kcI cI 10 g4)] ∧ va_S A s.heap H locs ∧ lv_has ls 4 [(3, .int y3713), (2, .int r2515), (1, .int y2508), (0, .ref h)]) (fun u H locs ls hI => ?_) (fun hJ110 => ?_)
            · skip
              clear hP hD hS hl
              obtain ⟨g3748, rfl⟩ : ∃ z, z = u := ⟨_, rfl⟩
              obtain ⟨hF5, hP, hD, hS, hl⟩ := hI
              have hP : va_P D vwCl [(aW, kcJ cJ 4096 g3748), (h, oX11 th aw ai ab ac hi re aP ta po en be de fa a5 sp av an ak x1 aW aC ag aT aN aF), (aw, kcI cI 2179 fw), (av, kcI cI 400 g2), (an, kcI cI 10 g3), (ak, kcI cI 10 g4)] H := hP
              have hD : va_D A [(aW, kcJ cJ 4096 g3748), (h, oX11 th aw ai ab ac hi re aP ta po en be de fa a5 sp av an ak x1 aW aC ag aT aN aF), (aw, kcI cI 2179 fw), (av, kcI cI 400 g2), (an, kcI cI 10 g3), (ak, kcI cI 10 g4)] := hD
              have hl : lv_has ls 4 [(3, .int y3713), (2, .int r2515), (1, .int y2508), (0, .ref h)] := hl
              obtain ⟨x3749, ex3749⟩ : ∃ y : Int32, y = y3713 + 1 := ⟨_, rfl⟩
              refine lv_iinc (v := x3749) (lv' := [(3, .int x3749), (2, .int r2515), (1, .int y2508), (0, .ref h)]) hx hb dX11_allWays_110 hl (k := 0) rfl (by rw [ex3749]; rfl) (by decide) rfl (fun ls hl => ?_)
              have k3750 : Rg x3749 1 12 := rg_add ex3749 k3721 (rg_lit (n := 1) (by decide)) (by decide)
              refine lv_goto (tgt := 54) hx hb dX11_allWays_113 (by decide) ?_
              exact ih3715 (x3749, g3748) _ _ _ (by show (12 - (x3749).toInt).toNat < (12 - (y3713).toInt).toNat; exact mu_up ex3749 k3721 k3750 (by decide)) ⟨(hF4.trans (kIter_go (hF5.trans (kLet_eq (ti_add ex3749 k3721 (rg_lit (n := 1) (by decide)) (by decide) rfl rfl) rfl)))), (rg_w k3750 (by decide)), hP.sub (ws' := [(aW, kcJ cJ 4096 g3748), (h, oX11 th aw ai ab ac hi re aP ta po en be de fa a5 sp av an ak x1 aW aC ag aT aN aF), (aw, kcI cI 2179 fw), (av, kcI cI 400 g2), (an, kcI cI 10 g3), (ak, kcI cI 10 g4)]) [0, 1, 2, 3, 4, 5] rfl, hD.sub (ws' := [(aW, kcJ cJ 4096 g3748), (h, oX11 th aw ai ab ac hi re aP ta po en be de fa a5 sp av an ak x1 aW aC ag aT aN aF), (aw, kcI cI 2179 fw), (av, kcI cI 400 g2), (an, kcI cI 10 g3), (ak, kcI cI 10 g4)]) [0, 1, 2, 3, 4, 5] (by decide) rfl, hS, lv_sub (l' := [(3, .int x3749), (2, .int r2515), (1, .int y2508), (0, .ref h)]) hl [0, 1, 2, 3] rfl⟩
            refine lv_if_eq (tgt := 110) hx hb dX11_allWays_80 (by decide) (fun c3751 => ?_) (fun c3751 => ?_)
            · skip
              have k3752 : Rg r3727 0 0 := rg_q1 (eqI c3751) k3728 (rg_lit (n := 0) (by decide)) (by decide)
              exact hJ110 (g3714) _ _ _ ⟨(kC_eq rfl (kLet_eq (k3719).symm (kif_f (xF_le c3720) (kif_f (xF_le c3723) (kLet_eq (ke_ld ex3726) (kLet_eq (k3729).symm (kif_t (eqI c3751) rfl))))))), hP.sub (ws' := [(aW, kcJ cJ 4096 g3714), (h, oX11 th aw ai ab ac hi re aP ta po en be de fa a5 sp av an ak x1 aW aC ag aT aN aF), (aw, kcI cI 2179 fw), (av, kcI cI 400 g2), (an, kcI cI 10 g3), (ak, kcI cI 10 g4)]) [0, 1, 2, 3, 4, 5] rfl, hD.sub (ws' := [(aW, kcJ cJ 4096 g3714), (h, oX11 th aw ai ab ac hi re aP ta po en be de fa a5 sp av an ak x1 aW aC ag aT aN aF), (aw, kcI cI 2179 fw), (av, kcI cI 400 g2), (an, kcI cI 10 g3), (ak, kcI cI 10 g4)]) [0, 1, 2, 3, 4, 5] (by decide) rfl, hS, lv_sub (l' := [(3, .int y3713), (2, .int r2515), (1, .int y2508), (0, .ref h)]) hl [0, 1, 2, 3] rfl⟩
            · skip
              have k3753 : Rg r3727 1 1 := rg_n1 (neI c3751) k3728 (rg_lit (n := 0) (by decide)) (by decide)
              refine lv_iload_n hx hb dX11_allWays_83 rfl (lv_at hl 2 rfl) ?_
              refine lv_iload_n hx hb dX11_allWays_84 rfl (lv_at hl 0 rfl) ?_
              refine kpurei (wc := []) hP hD hS hA [] rfl (by decide) (fun hPc hDc hFc => va_runS (As := [.int y2508, .int y3713]) (rest := []) ⟨hx, hb, hml, hown, hts⟩ (r_has l D cI cJ cB cC y2508 y3713 H.size) (va_cwS 2 hts gX11_allWays_X11_has rfl rfl rfl hdX11_has ⟨Nat.le_of_ble_eq_true rfl, Nat.le_of_ble_eq_true rfl⟩) ⟨kBlind, fun U hU hW => ⟨rfl, by rw [hU], hN.warm hW, hE.pass hS hFc hW hU, by rw [hU]; exact hPc, va_K.moved hW.alike hK, hDc⟩⟩ rfl rfl hl.1 rfl (lv_room (Nat.le_of_ble_eq_true rfl)) dX11_allWays_85 ⟨Nat.le_of_ble_eq_true rfl, Nat.le_of_ble_eq_true rfl⟩) (fun r3754 u H locs hw hP hS => ?_)
              obtain ⟨k3755, k3756⟩ := hw
              refine lv_if_ne (tgt := 110) hx hb dX11_allWays_88 (by decide) (fun c3757 => ?_) (fun c3757 => ?_)
              · skip
                have k3758 : Rg r3754 1 1 := rg_n1 (neI c3757) k3755 (rg_lit (n := 0) (by decide)) (by decide)
                exact hJ110 (g3714) _ _ _ ⟨(kC_eq rfl (kLet_eq (k3719).symm (kif_f (xF_le c3720) (kif_f (xF_le c3723) (kLet_eq (ke_ld ex3726) (kLet_eq (k3729).symm (kif_f (neI c3751) (kLet_eq (k3756).symm (kif_f (neI c3757) rfl))))))))), hP.sub (ws' := [(aW, kcJ cJ 4096 g3714), (h, oX11 th aw ai ab ac hi re aP ta po en be de fa a5 sp av an ak x1 aW aC ag aT aN aF), (aw, kcI cI 2179 fw), (av, kcI cI 400 g2), (an, kcI cI 10 g3), (ak, kcI cI 10 g4)]) [0, 1, 2, 3, 4, 5] rfl, hD.sub (ws' := [(aW, kcJ cJ 4096 g3714), (h, oX11 th aw ai ab ac hi re aP ta po en be de fa a5 sp av an ak x1 aW aC ag aT aN aF), (aw, kcI cI 2179 fw), (av, kcI cI 400 g2), (an, kcI cI 10 g3), (ak, kcI cI 10 g4)]) [0, 1, 2, 3, 4, 5] (by decide) rfl, hS, lv_sub (l' := [(3, .int y3713), (2, .int r2515), (1, .int y2508), (0, .ref h)]) hl [0, 1, 2, 3] rfl⟩
              · skip
                have k3759 : Rg r3754 0 0 := rg_q1 (eqI c3757) k3755 (rg_lit (n := 0) (by decide)) (by decide)
                refine lv_aload_n hx hb dX11_allWays_91 rfl (lv_at hl 3 rfl) ?_
                refine va_get (D := D) (ci := 10) (v := .ref aW) (C := RX11) (T := TX11) (N := 26) hx hb hts iG_X11 hown hK hP 1 rfl rfl 20 (by decide) (hts _ w5_14) (fun _ h9 => h9) rfl dX11_allWays_92 ?_
                refine lv_iload_n hx hb dX11_allWays_95 rfl (lv_at hl 2 rfl) ?_
                refine lv_dup2_11 hx hb dX11_allWays_96 rfl rfl ?_
                refine va_lald hx hb hK hP 0 1 rfl rfl (rg_in k2514 (by decide)) dX11_allWays_97 ?_
                refine lv_topl (fun x3760 ex3760 => ?_)
                refine lv_aload_n hx hb dX11_allWays_98 rfl (lv_at hl 3 rfl) ?_
                refine va_get (D := D) (ci := 10) (v := .ref aW) (C := RX11) (T := TX11) (N := 26) hx hb hts iG_X11 hown hK hP 1 rfl rfl 20 (by decide) (hts _ w5_14) (fun _ h9 => h9) rfl dX11_allWays_99 ?_
                refine lv_iload_n hx hb dX11_allWays_102 rfl (lv_at hl 2 rfl) ?_
                refine lv_iconst (v := 1) hx hb dX11_allWays_103 (by decide) ?_
                refine lv_iload_n hx hb dX11_allWays_104 rfl (lv_at hl 0 rfl) ?_
                refine lv_ishl hx hb dX11_allWays_105 ?_
                refine lv_topi (fun x3761 ex3761 => ?_)
                have k3762 : Rg x3761 1 2048 := rg_shl1 11 ex3761 k3721 (by decide)
                refine lv_ior hx hb dX11_allWays_106 ?_
                refine lv_topi (fun x3763 ex3763 => ?_)
                have k3764 : Rg x3763 0 4095 := rg_or 12 ex3763 k2514 k3762 (by decide)
                refine va_lald hx hb hK hP 0 1 rfl rfl (rg_in k3764 (by decide)) dX11_allWays_107 ?_
                refine lv_topl (fun x3765 ex3765 => ?_)
                refine lv_ladd hx hb dX11_allWays_108 ?_
                refine lv_topl (fun x3766 ex3766 => ?_)
                refine va_last hx hb hK hP hD hS 0 1 rfl rfl (rg_in k2514 (by decide)) dX11_allWays_109 (fun H locs hP hD hS => ?_)
                have hP : va_P D vwCl [(aW, kcJ cJ 4096 (vp_updL g3714 y2508.toNatClampNeg x3766)), (h, oX11 th aw ai ab ac hi re aP ta po en be de fa a5 sp av an ak x1 aW aC ag aT aN aF), (aw, kcI cI 2179 fw), (av, kcI cI 400 g2), (an, kcI cI 10 g3), (ak, kcI cI 10 g4)] H := hP
                have hD : va_D A [(aW, kcJ cJ 4096 (vp_updL g3714 y2508.toNatClampNeg x3766)), (h, oX11 th aw ai ab ac hi re aP ta po en be de fa a5 sp av an ak x1 aW aC ag aT aN aF), (aw, kcI cI 2179 fw), (av, kcI cI 400 g2), (an, kcI cI 10 g3), (ak, kcI cI 10 g4)] := hD
                generalize hg3767 : (vp_updL g3714 y2508.toNatClampNeg x3766) = g3767 at hP hD
                exact hJ110 (g3767) _ _ _ ⟨(kC_eq rfl (kLet_eq (k3719).symm (kif_f (xF_le c3720) (kif_f (xF_le c3723) (kLet_eq (ke_ld ex3726) (kLet_eq (k3729).symm (kif_f (neI c3751) (kLet_eq (k3756).symm (kif_t (eqI c3757) (kLet_eq (ke_ldL ex3760) (kLet_eq (ke_shl ex3761) (kLet_eq (ke_or ex3763) (kLet_eq (ke_ldL ex3765) (kLet_eq ex3766 (kLet_eq (ke_stL hg3767) rfl))))))))))))))), hP.sub (ws' := [(aW, kcJ cJ 4096 g3767), (h, oX11 th aw ai ab ac hi re aP ta po en be de fa a5 sp av an ak x1 aW aC ag aT aN aF), (aw, kcI cI 2179 fw), (av, kcI cI 400 g2), (an, kcI cI 10 g3), (ak, kcI cI 10 g4)]) [0, 1, 2, 3, 4, 5] rfl, hD.sub (ws' := [(aW, kcJ cJ 4096 g3767), (h, oX11 th aw ai ab ac hi re aP ta po en be de fa a5 sp av an ak x1 aW aC ag aT aN aF), (aw, kcI cI 2179 fw), (av, kcI cI 400 g2), (an, kcI cI 10 g3), (ak, kcI cI 10 g4)]) [0, 1, 2, 3, 4, 5] (by decide) rfl, hS, lv_sub (l' := [(3, .int y3713), (2, .int r2515), (1, .int y2508), (0, .ref h)]) hl [0, 1, 2, 3] rfl⟩
      refine lv_icmp_ne (tgt := 50) hx hb dX11_allWays_43 (by decide) (fun c3768 => ?_) (fun c3768 => ?_)
      · skip
        refine lv_lconst (v := 0) hx hb dX11_allWays_50 (by decide) ?_
        exact hJ51 ((0 : Int64), y2508) _ _ _ ⟨(kC_eq rfl (kif_f (xF_lt c2511) (kLet_eq (k2517).symm (kif_t (leI c3135) (kif_f (neI c3768) rfl))))), k2514, hP.sub (ws' := [(aW, kcJ cJ 4096 g2509), (h, oX11 th aw ai ab ac hi re aP ta po en be de fa a5 sp av an ak x1 aW aC ag aT aN aF), (aw, kcI cI 2179 fw), (av, kcI cI 400 g2), (an, kcI cI 10 g3), (ak, kcI cI 10 g4)]) [0, 1, 2, 3, 4, 5] rfl, hD.sub (ws' := [(aW, kcJ cJ 4096 g2509), (h, oX11 th aw ai ab ac hi re aP ta po en be de fa a5 sp av an ak x1 aW aC ag aT aN aF), (aw, kcI cI 2179 fw), (av, kcI cI 400 g2), (an, kcI cI 10 g3), (ak, kcI cI 10 g4)]) [0, 1, 2, 3, 4, 5] (by decide) rfl, hS, lv_sub (l' := [(2, .int r2515), (1, .int y2508), (0, .ref h)]) hl [0, 1, 2] rfl⟩
      · skip
        refine lv_lconst (v := 1) hx hb dX11_allWays_46 (by decide) ?_
        refine lv_goto (tgt := 51) hx hb dX11_allWays_47 (by decide) ?_
        exact hJ51 ((1 : Int64), y2508) _ _ _ ⟨(kC_eq rfl (kif_f (xF_lt c2511) (kLet_eq (k2517).symm (kif_t (leI c3135) (kif_t (eqI c3768) rfl))))), k2514, hP.sub (ws' := [(aW, kcJ cJ 4096 g2509), (h, oX11 th aw ai ab ac hi re aP ta po en be de fa a5 sp av an ak x1 aW aC ag aT aN aF), (aw, kcI cI 2179 fw), (av, kcI cI 400 g2), (an, kcI cI 10 g3), (ak, kcI cI 10 g4)]) [0, 1, 2, 3, 4, 5] rfl, hD.sub (ws' := [(aW, kcJ cJ 4096 g2509), (h, oX11 th aw ai ab ac hi re aP ta po en be de fa a5 sp av an ak x1 aW aC ag aT aN aF), (aw, kcI cI 2179 fw), (av, kcI cI 400 g2), (an, kcI cI 10 g3), (ak, kcI cI 10 g4)]) [0, 1, 2, 3, 4, 5] (by decide) rfl, hS, lv_sub (l' := [(2, .int r2515), (1, .int y2508), (0, .ref h)]) hl [0, 1, 2] rfl⟩
    · skip
      have k3769 : Rg r2515 1 63 := rg_l2 (nleI c3135) k5 k2516 (by decide)
      refine lv_goto (tgt := 116) hx hb dX11_allWays_30 (by decide) ?_
      exact hJ116 (g2509) _ _ _ ⟨(kC_eq rfl (kif_f (xF_lt c2511) (kLet_eq (k2517).symm (kif_f (xF_le c3135) rfl)))), hP.sub (ws' := [(aW, kcJ cJ 4096 g2509), (h, oX11 th aw ai ab ac hi re aP ta po en be de fa a5 sp av an ak x1 aW aC ag aT aN aF), (aw, kcI cI 2179 fw), (av, kcI cI 400 g2), (an, kcI cI 10 g3), (ak, kcI cI 10 g4)]) [0, 1, 2, 3, 4, 5] rfl, hD.sub (ws' := [(aW, kcJ cJ 4096 g2509), (h, oX11 th aw ai ab ac hi re aP ta po en be de fa a5 sp av an ak x1 aW aC ag aT aN aF), (aw, kcI cI 2179 fw), (av, kcI cI 400 g2), (an, kcI cI 10 g3), (ak, kcI cI 10 g4)]) [0, 1, 2, 3, 4, 5] (by decide) rfl, hS, lv_sub (l' := [(2, .int r2515), (1, .int y2508), (0, .ref h)]) hl [0, 1, 2] rfl⟩

def kwX11_ways : List Cond := .code yX11_ways cX11_ways 1 (some .long) :: kG
theorem hdX11_ways : yX11_ways.cls ≠ "java/lang/invoke/MethodHandle" ∧ yX11_ways.cls ≠ "java/lang/invoke/VarHandle" ∧ (parseMethodDescriptor yX11_ways.desc).map (fun d => d.parameters.length) = some 0 := by decide +kernel
theorem gX11_ways_X11_allWays : GoodIn kG (wsV RX11 330 RX11 yX11_allWays kwX11_allWays) := gK w40_7 (gK w40_8 (gK w40_9 (gK w0_5 (gK w40_10 gGG))))
theorem dX11_ways_0 : decode cX11_ways 0 = .ok (.aload_n 0, 1) := by decide +kernel
theorem dX11_ways_1 : decode cX11_ways 1 = .ok (.iconst 0, 1) := by decide +kernel
theorem dX11_ways_2 : decode cX11_ways 2 = .ok (.putfield 3, 3) := by decide +kernel
theorem dX11_ways_5 : decode cX11_ways 5 = .ok (.aload_n 0, 1) := by decide +kernel
theorem dX11_ways_6 : decode cX11_ways 6 = .ok (.invokevirtual 330, 3) := by decide +kernel
theorem dX11_ways_9 : decode cX11_ways 9 = .ok (.lreturn, 1) := by decide +kernel
set_option maxHeartbeats 4000000 in
set_option maxRecDepth 100000 in
/-- reference: ways -/
theorem r_ways (l : Launch) (D : va_G) (cI cJ cB cC : ClassId) (h : Nat) (th : Int32) (aw : Nat) (ai : Nat) (ab : Nat) (ac : Nat) (hi : Int32) (re : Int32) (aP : Nat) (ta : Int32) (po : Int32) (en : Int32) (be : Int32) (de : Int32) (fa : Int32) (a5 : Nat) (sp : Int32) (av : Nat) (an : Nat) (ak : Nat) (ne : Int32) (aW : Nat) (aC : Nat) (ag : Nat) (aT : Nat) (aN : Nat) (aF : Nat) (fw : Nat → Int32) (fv : Nat → Int32) (fn : Nat → Int32) (fk : Nat → Int32) (fW : Nat → Int64) (sz : Nat) (H_fw_W : wW fw) (H_fw_L : wL fw) (H_fn_N : wN fn) : Met l yX11_ways kwX11_ways ({ frames := 9, cells := 0, slots := 0, locals := 211 } : Room) (kPre D (kT cI cJ cB cC) sz [(h, oX11 th aw ai ab ac hi re aP ta po en be de fa a5 sp av an ak ne aW aC ag aT aN aF), (aw, kcI cI 2179 fw), (av, kcI cI 400 fv), (an, kcI cI 10 fn), (ak, kcI cI 10 fk), (aW, kcJ cJ 4096 fW)] [.ref h]) (va_Ql (fun (r : Int64) (uu : Int32 × (Nat → Int32) × (Nat → Int32) × (Nat → Int32) × (Nat → Int64)) => match uu with | (n0_, f1_, f2_, f3_, f4_) => Rg n0_ 0 10 ∧ wN f2_ ∧ F_r_ways (gT fw) (gT fv) (gT fn) (gT fk) fW = (r, (n0_ : Int32).toInt, (gT f1_), (gT f2_), (gT f3_), f4_)) (fun (uu : Int32 × (Nat → Int32) × (Nat → Int32) × (Nat → Int32) × (Nat → Int64)) (t : State) => match uu with | (n0_, f1_, f2_, f3_, f4_) => kB D (kT cI cJ cB cC) (va_A [(h, oX11 th aw ai ab ac hi re aP ta po en be de fa a5 sp av an ak ne aW aC ag aT aN aF), (aw, kcI cI 2179 fw), (av, kcI cI 400 fv), (an, kcI cI 10 fn), (ak, kcI cI 10 fk), (aW, kcJ cJ 4096 fW)] sz) [(h, oX11 0 aw ai ab ac hi re aP ta po en be de fa a5 sp av an ak n0_ aW aC ag aT aN aF), (aw, kcI cI 2179 fw), (av, kcI cI 400 f1_), (an, kcI cI 10 f2_), (ak, kcI cI 10 f3_), (aW, kcJ cJ 4096 f4_)] t) (va_A [(h, oX11 th aw ai ab ac hi re aP ta po en be de fa a5 sp av an ak ne aW aC ag aT aN aF), (aw, kcI cI 2179 fw), (av, kcI cI 400 fv), (an, kcI cI 10 fn), (ak, kcI cI 10 fk), (aW, kcJ cJ 4096 fW)] sz)) 0 0 (va_A [(h, oX11 th aw ai ab ac hi re aP ta po en be de fa a5 sp av an ak ne aW aC ag aT aN aF), (aw, kcI cI 2179 fw), (av, kcI cI 400 fv), (an, kcI cI 10 fn), (ak, kcI cI 10 fk), (aW, kcJ cJ 4096 fW)] sz) := by
  refine Met.ofW (cc := cX11_ways) (maxL := 1) (ret := (some .long)) (by decide) rfl ?_
  intro p e s m args below meth c s₁ B hml hv
  obtain ⟨rfl, hsz, hN, hE, hP, hK, hD0⟩ := hv
  have hx := B.exec
  have hb := B.bytes
  have hr := B.returns
  have hts := fun (w : Cond) (h : w ∈ kG) => atoms_spec (ws := kwX11_ways) B.pre w (List.mem_cons_of_mem _ h)
  have hown : s.vm.findClass RX11 = some m.cls := findClass_of_methodNamed B.named
  subst hsz
  have hD := hD0.self (sz := s.heap.size)
  generalize hAe : va_A [(h, oX11 th aw ai ab ac hi re aP ta po en be de fa a5 sp av an ak ne aW aC ag aT aN aF), (aw, kcI cI 2179 fw), (av, kcI cI 400 fv), (an, kcI cI 10 fn), (ak, kcI cI 10 fk), (aW, kcJ cJ 4096 fW)] s.heap.size = A at hD hE ⊢
  have hA : ∀ q : Nat, s.heap.size ≤ q → A q := fun q h => by rw [← hAe]; exact Or.inr h
  have hl := lv_entry ([.ref h]) (n := 1) (Nat.le_of_ble_eq_true rfl)
  rw [lg_entry_eq]
  generalize (lg_sl ([.ref h]) ++ List.replicate (1 - (lg_sl ([.ref h])).length) Slot.unset).toArray = ls at hl ⊢
  have hl : lv_has ls 1 [(0, .ref h)] := hl
  obtain ⟨H, hH0⟩ : ∃ H, H = s.heap := ⟨_, rfl⟩
  have hS : va_S A s.heap H [] := by rw [hH0]; exact va_S.rf
  have hP : va_P D vwCl [(h, oX11 th aw ai ab ac hi re aP ta po en be de fa a5 sp av an ak ne aW aC ag aT aN aF), (aw, kcI cI 2179 fw), (av, kcI cI 400 fv), (an, kcI cI 10 fn), (ak, kcI cI 10 fk), (aW, kcJ cJ 4096 fW)] H := by rw [hH0]; exact hP
  refine kHeap hH0 ?_
  clear hH0
  refine lv_aload_n hx hb dX11_ways_0 rfl (lv_at hl 0 rfl) ?_
  refine lv_iconst (v := 0) hx hb dX11_ways_1 (by decide) ?_
  refine va_put (D := D) (ci := 10) (v := .int 0) (ty := .int) (C := RX11) (T := TX11) (N := 26) hx hb hts iG_X11 tyX11 tyX11_ok nmX11 hown hK hP hD hS 0 rfl rfl 0 (by decide) (hts _ w6_8) (fun _ h9 => h9) rfl (by decide +kernel) rfl rfl (Nat.le_of_ble_eq_true rfl) dX11_ways_2 (fun H locs hP hD hS => ?_)
  have hP : va_P D vwCl [(h, oX11 0 aw ai ab ac hi re aP ta po en be de fa a5 sp av an ak ne aW aC ag aT aN aF), (aw, kcI cI 2179 fw), (av, kcI cI 400 fv), (an, kcI cI 10 fn), (ak, kcI cI 10 fk), (aW, kcJ cJ 4096 fW)] H := hP
  have hD : va_D A [(h, oX11 0 aw ai ab ac hi re aP ta po en be de fa a5 sp av an ak ne aW aC ag aT aN aF), (aw, kcI cI 2179 fw), (av, kcI cI 400 fv), (an, kcI cI 10 fn), (ak, kcI cI 10 fk), (aW, kcJ cJ 4096 fW)] := hD
  refine lv_aload_n hx hb dX11_ways_5 rfl (lv_at hl 0 rfl) ?_
  refine kcalll (wc := [(h, oX11 0 aw ai ab ac hi re aP ta po en be de fa a5 sp av an ak ne aW aC ag aT aN aF), (aw, kcI cI 2179 fw), (av, kcI cI 400 fv), (an, kcI cI 10 fn), (ak, kcI cI 10 fk), (aW, kcJ cJ 4096 fW)]) (wr := []) hP hD hS hA [0, 1, 2, 3, 4, 5] [] rfl rfl (by decide) (by decide) (by decide) (fun hPc hDc hFc => va_runV (As := []) (rest := []) ⟨hx, hb, hml, hown, hts⟩ (r_allWays l D cI cJ cB cC h 0 aw ai ab ac hi re aP ta po en be de fa a5 sp av an ak ne aW aC ag aT aN aF fw fv fn fk fW H.size H_fw_W H_fw_L H_fn_N) (cwV 0 hts gX11_ways_X11_allWays rfl rfl rfl ⟨rfl, hdX11_allWays⟩ ⟨Nat.le_of_ble_eq_true rfl, Nat.le_of_ble_eq_true rfl⟩) ⟨kBlind, va_recv hK hPc (ci := 10) (q0 := 0) rfl rfl, fun U hU hW => ⟨rfl, by rw [hU], hN.warm hW, hE.pass hS hFc hW hU, by rw [hU]; exact hPc, va_K.moved hW.alike hK, hDc⟩⟩ rfl rfl hl.1 rfl (lv_room (Nat.le_of_ble_eq_true rfl)) dX11_ways_6 ⟨Nat.le_of_ble_eq_true rfl, Nat.le_of_ble_eq_true rfl⟩) (fun r1 u H locs hw hP hD hS => ?_)
  obtain ⟨x2, g3, g4, g5, g6⟩ := u
  have hP : va_P D vwCl [(h, oX11 0 aw ai ab ac hi re aP ta po en be de fa a5 sp av an ak x2 aW aC ag aT aN aF), (aw, kcI cI 2179 fw), (av, kcI cI 400 g3), (an, kcI cI 10 g4), (ak, kcI cI 10 g5), (aW, kcJ cJ 4096 g6)] H := hP
  have hD : va_D A [(h, oX11 0 aw ai ab ac hi re aP ta po en be de fa a5 sp av an ak x2 aW aC ag aT aN aF), (aw, kcI cI 2179 fw), (av, kcI cI 400 g3), (an, kcI cI 10 g4), (ak, kcI cI 10 g5), (aW, kcJ cJ 4096 g6)] := hD
  obtain ⟨k7, k8, k9⟩ := hw
  have hP9 := hP.sub (ws' := [(h, oX11 0 aw ai ab ac hi re aP ta po en be de fa a5 sp av an ak x2 aW aC ag aT aN aF), (aw, kcI cI 2179 fw), (av, kcI cI 400 g3), (an, kcI cI 10 g4), (ak, kcI cI 10 g5), (aW, kcJ cJ 4096 g6)]) [0, 1, 2, 3, 4, 5] rfl
  have hD9 := hD.sub (ws' := [(h, oX11 0 aw ai ab ac hi re aP ta po en be de fa a5 sp av an ak x2 aW aC ag aT aN aF), (aw, kcI cI 2179 fw), (av, kcI cI 400 g3), (an, kcI cI 10 g4), (ak, kcI cI 10 g5), (aW, kcJ cJ 4096 g6)]) [0, 1, 2, 3, 4, 5] (by decide) rfl
  exact W.lret (v := r1) hx hb hr (fun t ht hW => ⟨⟨r1, (x2, g3, g4, g5, g6), rfl, ⟨k7, k8, (kC_eq k9 (kC_eq rfl (kC_eq rfl (kC_eq rfl (kC_eq rfl rfl)))))⟩, by rw [ht]; exact hP9, va_K.moved hW.alike hK, hD9⟩, hS.F ht⟩) hS.2.2 dX11_ways_9

def kwX11_leastCost : List Cond := .code yX11_leastCost cX11_leastCost 4 (some .int) :: kG
theorem hdX11_leastCost : yX11_leastCost.cls ≠ "java/lang/invoke/MethodHandle" ∧ yX11_leastCost.cls ≠ "java/lang/invoke/VarHandle" ∧ (parseMethodDescriptor yX11_leastCost.desc).map (fun d => d.parameters.length) = some 0 := by decide +kernel
theorem gX11_leastCost_J6_bitCount_0f7a4 : GoodIn kG (va_wsS RX11 325 yJ6_bitCount_0f7a4 kwJ6_bitCount_0f7a4) := gK w40_20 (gK w39_16 (gK w39_17 (gK w39_18 gGG)))
theorem gX11_leastCost_X11_costOf : GoodIn kG (wsV RX11 289 RX11 yX11_costOf kwX11_costOf) := gK w31_20 (gK w31_21 (gK w31_22 (gK w0_5 (gK w31_23 gGG))))
theorem gX11_leastCost_X11_has : GoodIn kG (va_wsS RX11 310 yX11_has kwX11_has) := gK w37_15 (gK w37_16 (gK w0_5 (gK w37_17 gGG)))
theorem gX11_leastCost_X11_looks : GoodIn kG (wsV RX11 322 RX11 yX11_looks kwX11_looks) := gK w40_12 (gK w40_13 (gK w40_14 (gK w0_5 (gK w40_15 gGG))))
theorem gX11_leastCost_X11_shirts : GoodIn kG (wsV RX11 79 RX11 yX11_shirts kwX11_shirts) := gK w20_17 (gK w20_18 (gK w20_19 (gK w0_5 (gK w20_20 gGG))))
theorem dX11_leastCost_0 : decode cX11_leastCost 0 = .ok (.aload_n 0, 1) := by decide +kernel
theorem dX11_leastCost_1 : decode cX11_leastCost 1 = .ok (.invokevirtual 322, 3) := by decide +kernel
theorem dX11_leastCost_4 : decode cX11_leastCost 4 = .ok (.iconst 1, 1) := by decide +kernel
theorem dX11_leastCost_5 : decode cX11_leastCost 5 = .ok (.aload_n 0, 1) := by decide +kernel
theorem dX11_leastCost_6 : decode cX11_leastCost 6 = .ok (.invokevirtual 79, 3) := by decide +kernel
theorem dX11_leastCost_9 : decode cX11_leastCost 9 = .ok (.ishl, 1) := by decide +kernel
theorem dX11_leastCost_10 : decode cX11_leastCost 10 = .ok (.iconst 1, 1) := by decide +kernel
theorem dX11_leastCost_11 : decode cX11_leastCost 11 = .ok (.isub, 1) := by decide +kernel
theorem dX11_leastCost_12 : decode cX11_leastCost 12 = .ok (.istore_n 1, 1) := by decide +kernel
theorem dX11_leastCost_13 : decode cX11_leastCost 13 = .ok (.iload_n 1, 1) := by decide +kernel
theorem dX11_leastCost_14 : decode cX11_leastCost 14 = .ok (.ifCond .lt 128, 3) := by decide +kernel
theorem dX11_leastCost_17 : decode cX11_leastCost 17 = .ok (.iload_n 1, 1) := by decide +kernel
theorem dX11_leastCost_18 : decode cX11_leastCost 18 = .ok (.invokestatic 325, 3) := by decide +kernel
theorem dX11_leastCost_21 : decode cX11_leastCost 21 = .ok (.istore_n 2, 1) := by decide +kernel
theorem dX11_leastCost_22 : decode cX11_leastCost 22 = .ok (.iload_n 2, 1) := by decide +kernel
theorem dX11_leastCost_23 : decode cX11_leastCost 23 = .ok (.aload_n 0, 1) := by decide +kernel
theorem dX11_leastCost_24 : decode cX11_leastCost 24 = .ok (.getfield 316, 3) := by decide +kernel
theorem dX11_leastCost_27 : decode cX11_leastCost 27 = .ok (.if_icmp .le 6, 3) := by decide +kernel
theorem dX11_leastCost_30 : decode cX11_leastCost 30 = .ok (.goto 106, 3) := by decide +kernel
theorem dX11_leastCost_33 : decode cX11_leastCost 33 = .ok (.aload_n 0, 1) := by decide +kernel
theorem dX11_leastCost_34 : decode cX11_leastCost 34 = .ok (.getfield 49, 3) := by decide +kernel
theorem dX11_leastCost_37 : decode cX11_leastCost 37 = .ok (.iload_n 1, 1) := by decide +kernel
theorem dX11_leastCost_38 : decode cX11_leastCost 38 = .ok (.iload_n 2, 1) := by decide +kernel
theorem dX11_leastCost_39 : decode cX11_leastCost 39 = .ok (.aload_n 0, 1) := by decide +kernel
theorem dX11_leastCost_40 : decode cX11_leastCost 40 = .ok (.getfield 316, 3) := by decide +kernel
theorem dX11_leastCost_43 : decode cX11_leastCost 43 = .ok (.if_icmp .ne 7, 3) := by decide +kernel
theorem dX11_leastCost_46 : decode cX11_leastCost 46 = .ok (.iconst 0, 1) := by decide +kernel
theorem dX11_leastCost_47 : decode cX11_leastCost 47 = .ok (.goto 6, 3) := by decide +kernel
theorem dX11_leastCost_50 : decode cX11_leastCost 50 = .ok (.ldc_w 334, 3) := by decide +kernel
theorem dX11_leastCost_53 : decode cX11_leastCost 53 = .ok (.iastore, 1) := by decide +kernel
theorem dX11_leastCost_54 : decode cX11_leastCost 54 = .ok (.iconst 0, 1) := by decide +kernel
theorem dX11_leastCost_55 : decode cX11_leastCost 55 = .ok (.istore_n 3, 1) := by decide +kernel
theorem dX11_leastCost_56 : decode cX11_leastCost 56 = .ok (.iload_n 3, 1) := by decide +kernel
theorem dX11_leastCost_57 : decode cX11_leastCost 57 = .ok (.aload_n 0, 1) := by decide +kernel
theorem dX11_leastCost_58 : decode cX11_leastCost 58 = .ok (.invokevirtual 79, 3) := by decide +kernel
theorem dX11_leastCost_61 : decode cX11_leastCost 61 = .ok (.if_icmp .ge 75, 3) := by decide +kernel
theorem dX11_leastCost_64 : decode cX11_leastCost 64 = .ok (.iload_n 2, 1) := by decide +kernel
theorem dX11_leastCost_65 : decode cX11_leastCost 65 = .ok (.aload_n 0, 1) := by decide +kernel
theorem dX11_leastCost_66 : decode cX11_leastCost 66 = .ok (.getfield 316, 3) := by decide +kernel
theorem dX11_leastCost_69 : decode cX11_leastCost 69 = .ok (.if_icmp .ge 67, 3) := by decide +kernel
theorem dX11_leastCost_72 : decode cX11_leastCost 72 = .ok (.aload_n 0, 1) := by decide +kernel
theorem dX11_leastCost_73 : decode cX11_leastCost 73 = .ok (.getfield 42, 3) := by decide +kernel
theorem dX11_leastCost_76 : decode cX11_leastCost 76 = .ok (.iload_n 2, 1) := by decide +kernel
theorem dX11_leastCost_77 : decode cX11_leastCost 77 = .ok (.iaload, 1) := by decide +kernel
theorem dX11_leastCost_78 : decode cX11_leastCost 78 = .ok (.iload_n 3, 1) := by decide +kernel
theorem dX11_leastCost_79 : decode cX11_leastCost 79 = .ok (.invokestatic 310, 3) := by decide +kernel
theorem dX11_leastCost_82 : decode cX11_leastCost 82 = .ok (.ifCond .eq 48, 3) := by decide +kernel
theorem dX11_leastCost_85 : decode cX11_leastCost 85 = .ok (.iload_n 1, 1) := by decide +kernel
theorem dX11_leastCost_86 : decode cX11_leastCost 86 = .ok (.iload_n 3, 1) := by decide +kernel
theorem dX11_leastCost_87 : decode cX11_leastCost 87 = .ok (.invokestatic 310, 3) := by decide +kernel
theorem dX11_leastCost_90 : decode cX11_leastCost 90 = .ok (.ifCond .ne 40, 3) := by decide +kernel
theorem dX11_leastCost_93 : decode cX11_leastCost 93 = .ok (.aload_n 0, 1) := by decide +kernel
theorem dX11_leastCost_94 : decode cX11_leastCost 94 = .ok (.getfield 49, 3) := by decide +kernel
theorem dX11_leastCost_97 : decode cX11_leastCost 97 = .ok (.iload_n 1, 1) := by decide +kernel
theorem dX11_leastCost_98 : decode cX11_leastCost 98 = .ok (.aload_n 0, 1) := by decide +kernel
theorem dX11_leastCost_99 : decode cX11_leastCost 99 = .ok (.getfield 49, 3) := by decide +kernel
theorem dX11_leastCost_102 : decode cX11_leastCost 102 = .ok (.iload_n 1, 1) := by decide +kernel
theorem dX11_leastCost_103 : decode cX11_leastCost 103 = .ok (.iaload, 1) := by decide +kernel
theorem dX11_leastCost_104 : decode cX11_leastCost 104 = .ok (.aload_n 0, 1) := by decide +kernel
theorem dX11_leastCost_105 : decode cX11_leastCost 105 = .ok (.aload_n 0, 1) := by decide +kernel
theorem dX11_leastCost_106 : decode cX11_leastCost 106 = .ok (.getfield 39, 3) := by decide +kernel
theorem dX11_leastCost_109 : decode cX11_leastCost 109 = .ok (.iload_n 2, 1) := by decide +kernel
theorem dX11_leastCost_110 : decode cX11_leastCost 110 = .ok (.iaload, 1) := by decide +kernel
theorem dX11_leastCost_111 : decode cX11_leastCost 111 = .ok (.iload_n 3, 1) := by decide +kernel
theorem dX11_leastCost_112 : decode cX11_leastCost 112 = .ok (.invokevirtual 289, 3) := by decide +kernel
theorem dX11_leastCost_115 : decode cX11_leastCost 115 = .ok (.aload_n 0, 1) := by decide +kernel
theorem dX11_leastCost_116 : decode cX11_leastCost 116 = .ok (.getfield 49, 3) := by decide +kernel
theorem dX11_leastCost_119 : decode cX11_leastCost 119 = .ok (.iload_n 1, 1) := by decide +kernel
theorem dX11_leastCost_120 : decode cX11_leastCost 120 = .ok (.iconst 1, 1) := by decide +kernel
theorem dX11_leastCost_121 : decode cX11_leastCost 121 = .ok (.iload_n 3, 1) := by decide +kernel
theorem dX11_leastCost_122 : decode cX11_leastCost 122 = .ok (.ishl, 1) := by decide +kernel
theorem dX11_leastCost_123 : decode cX11_leastCost 123 = .ok (.ior, 1) := by decide +kernel
theorem dX11_leastCost_124 : decode cX11_leastCost 124 = .ok (.iaload, 1) := by decide +kernel
theorem dX11_leastCost_125 : decode cX11_leastCost 125 = .ok (.iadd, 1) := by decide +kernel
theorem dX11_leastCost_126 : decode cX11_leastCost 126 = .ok (.invokestatic 292, 3) := by decide +kernel
theorem dX11_leastCost_129 : decode cX11_leastCost 129 = .ok (.iastore, 1) := by decide +kernel
theorem dX11_leastCost_130 : decode cX11_leastCost 130 = .ok (.iinc 3 1, 3) := by decide +kernel
theorem dX11_leastCost_133 : decode cX11_leastCost 133 = .ok (.goto (-77), 3) := by decide +kernel
theorem dX11_leastCost_136 : decode cX11_leastCost 136 = .ok (.iinc 1 (-1), 3) := by decide +kernel
theorem dX11_leastCost_139 : decode cX11_leastCost 139 = .ok (.goto (-126), 3) := by decide +kernel
theorem dX11_leastCost_142 : decode cX11_leastCost 142 = .ok (.aload_n 0, 1) := by decide +kernel
theorem dX11_leastCost_143 : decode cX11_leastCost 143 = .ok (.getfield 49, 3) := by decide +kernel
theorem dX11_leastCost_146 : decode cX11_leastCost 146 = .ok (.iconst 0, 1) := by decide +kernel
theorem dX11_leastCost_147 : decode cX11_leastCost 147 = .ok (.iaload, 1) := by decide +kernel
theorem dX11_leastCost_148 : decode cX11_leastCost 148 = .ok (.ireturn, 1) := by decide +kernel
set_option maxHeartbeats 4000000 in
set_option maxRecDepth 100000 in
/-- reference: leastCost -/
theorem r_leastCost (l : Launch) (D : va_G) (cI cJ cB cC : ClassId) (h : Nat) (th : Int32) (aw : Nat) (ai : Nat) (ab : Nat) (ac : Nat) (hi : Int32) (re : Int32) (aP : Nat) (ta : Int32) (po : Int32) (en : Int32) (be : Int32) (de : Int32) (fa : Int32) (a5 : Nat) (sp : Int32) (av : Nat) (an : Nat) (ak : Nat) (ne : Int32) (aW : Nat) (aC : Nat) (ag : Nat) (aT : Nat) (aN : Nat) (aF : Nat) (fw : Nat → Int32) (fv : Nat → Int32) (fn : Nat → Int32) (fk : Nat → Int32) (fC : Nat → Int32) (sz : Nat) (H_fw_W : wW fw) (H_fw_L : wL fw) (H_fn_N : wN fn) : Met l yX11_leastCost kwX11_leastCost ({ frames := 8, cells := 0, slots := 0, locals := 188 } : Room) (kPre D (kT cI cJ cB cC) sz [(h, oX11 th aw ai ab ac hi re aP ta po en be de fa a5 sp av an ak ne aW aC ag aT aN aF), (aw, kcI cI 2179 fw), (av, kcI cI 400 fv), (an, kcI cI 10 fn), (ak, kcI cI 10 fk), (aC, kcI cI 4096 fC)] [.ref h]) (va_Qi (fun (r : Int32) (uu : Int32 × (Nat → Int32) × (Nat → Int32) × (Nat → Int32) × (Nat → Int32)) => match uu with | (n0_, f1_, f2_, f3_, f4_) => Rg n0_ 0 10 ∧ wN f2_ ∧ F_r_leastCost (gT fw) (gT fv) (gT fn) (gT fk) (gT fC) = ((r : Int32).toInt, (n0_ : Int32).toInt, (gT f1_), (gT f2_), (gT f3_), (gT f4_))) (fun (uu : Int32 × (Nat → Int32) × (Nat → Int32) × (Nat → Int32) × (Nat → Int32)) (t : State) => match uu with | (n0_, f1_, f2_, f3_, f4_) => kB D (kT cI cJ cB cC) (va_A [(h, oX11 th aw ai ab ac hi re aP ta po en be de fa a5 sp av an ak ne aW aC ag aT aN aF), (aw, kcI cI 2179 fw), (av, kcI cI 400 fv), (an, kcI cI 10 fn), (ak, kcI cI 10 fk), (aC, kcI cI 4096 fC)] sz) [(h, oX11 th aw ai ab ac hi re aP ta po en be de fa a5 sp av an ak n0_ aW aC ag aT aN aF), (aw, kcI cI 2179 fw), (av, kcI cI 400 f1_), (an, kcI cI 10 f2_), (ak, kcI cI 10 f3_), (aC, kcI cI 4096 f4_)] t) (va_A [(h, oX11 th aw ai ab ac hi re aP ta po en be de fa a5 sp av an ak ne aW aC ag aT aN aF), (aw, kcI cI 2179 fw), (av, kcI cI 400 fv), (an, kcI cI 10 fn), (ak, kcI cI 10 fk), (aC, kcI cI 4096 fC)] sz)) 0 0 (va_A [(h, oX11 th aw ai ab ac hi re aP ta po en be de fa a5 sp av an ak ne aW aC ag aT aN aF), (aw, kcI cI 2179 fw), (av, kcI cI 400 fv), (an, kcI cI 10 fn), (ak, kcI cI 10 fk), (aC, kcI cI 4096 fC)] sz) := by
  refine Met.ofW (cc := cX11_leastCost) (maxL := 4) (ret := (some .int)) (by decide) rfl ?_
  intro p e s m args below meth c s₁ B hml hv
  obtain ⟨rfl, hsz, hN, hE, hP, hK, hD0⟩ := hv
  have hx := B.exec
  have hb := B.bytes
  have hr := B.returns
  have hts := fun (w : Cond) (h : w ∈ kG) => atoms_spec (ws := kwX11_leastCost) B.pre w (List.mem_cons_of_mem _ h)
  have hown : s.vm.findClass RX11 = some m.cls := findClass_of_methodNamed B.named
  subst hsz
  have hD := hD0.self (sz := s.heap.size)
  generalize hAe : va_A [(h, oX11 th aw ai ab ac hi re aP ta po en be de fa a5 sp av an ak ne aW aC ag aT aN aF), (aw, kcI cI 2179 fw), (av, kcI cI 400 fv), (an, kcI cI 10 fn), (ak, kcI cI 10 fk), (aC, kcI cI 4096 fC)] s.heap.size = A at hD hE ⊢
  have hA : ∀ q : Nat, s.heap.size ≤ q → A q := fun q h => by rw [← hAe]; exact Or.inr h
  have hl := lv_entry ([.ref h]) (n := 4) (Nat.le_of_ble_eq_true rfl)
  rw [lg_entry_eq]
  generalize (lg_sl ([.ref h]) ++ List.replicate (4 - (lg_sl ([.ref h])).length) Slot.unset).toArray = ls at hl ⊢
  have hl : lv_has ls 4 [(0, .ref h)] := hl
  obtain ⟨H, hH0⟩ : ∃ H, H = s.heap := ⟨_, rfl⟩
  have hS : va_S A s.heap H [] := by rw [hH0]; exact va_S.rf
  have hP : va_P D vwCl [(h, oX11 th aw ai ab ac hi re aP ta po en be de fa a5 sp av an ak ne aW aC ag aT aN aF), (aw, kcI cI 2179 fw), (av, kcI cI 400 fv), (an, kcI cI 10 fn), (ak, kcI cI 10 fk), (aC, kcI cI 4096 fC)] H := by rw [hH0]; exact hP
  refine kHeap hH0 ?_
  clear hH0
  refine lv_aload_n hx hb dX11_leastCost_0 rfl (lv_at hl 0 rfl) ?_
  refine kcallv (wc := [(h, oX11 th aw ai ab ac hi re aP ta po en be de fa a5 sp av an ak ne aW aC ag aT aN aF), (aw, kcI cI 2179 fw), (av, kcI cI 400 fv), (an, kcI cI 10 fn), (ak, kcI cI 10 fk)]) (wr := [(aC, kcI cI 4096 fC)]) hP hD hS hA [0, 1, 2, 3, 4] [5] rfl rfl (by decide) (by decide) (by decide) (fun hPc hDc hFc => va_runV (As := []) (rest := []) ⟨hx, hb, hml, hown, hts⟩ (r_looks l D cI cJ cB cC h th aw ai ab ac hi re aP ta po en be de fa a5 sp av an ak ne aW aC ag aT aN aF fw fv fn fk H.size H_fw_W H_fw_L H_fn_N) (cwV 0 hts gX11_leastCost_X11_looks rfl rfl rfl ⟨rfl, hdX11_looks⟩ ⟨Nat.le_of_ble_eq_true rfl, Nat.le_of_ble_eq_true rfl⟩) ⟨kBlind, va_recv hK hPc (ci := 10) (q0 := 0) rfl rfl, fun U hU hW => ⟨rfl, by rw [hU], hN.warm hW, hE.pass hS hFc hW hU, by rw [hU]; exact hPc, va_K.moved hW.alike hK, hDc⟩⟩ rfl rfl hl.1 rfl (lv_room (Nat.le_of_ble_eq_true rfl)) dX11_leastCost_1 ⟨Nat.le_of_ble_eq_true rfl, Nat.le_of_ble_eq_true rfl⟩) (fun u H locs hw hP hD hS => ?_)
  obtain ⟨x1, g2, g3, g4⟩ := u
  have hP : va_P D vwCl [(aC, kcI cI 4096 fC), (h, oX11 th aw ai ab ac hi re aP ta po en be de fa a5 sp av an ak x1 aW aC ag aT aN aF), (aw, kcI cI 2179 fw), (av, kcI cI 400 g2), (an, kcI cI 10 g3), (ak, kcI cI 10 g4)] H := hP
  have hD : va_D A [(aC, kcI cI 4096 fC), (h, oX11 th aw ai ab ac hi re aP ta po en be de fa a5 sp av an ak x1 aW aC ag aT aN aF), (aw, kcI cI 2179 fw), (av, kcI cI 400 g2), (an, kcI cI 10 g3), (ak, kcI cI 10 g4)] := hD
  obtain ⟨k5, k6, k7⟩ := hw
  refine lv_iconst (v := 1) hx hb dX11_leastCost_4 (by decide) ?_
  refine lv_aload_n hx hb dX11_leastCost_5 rfl (lv_at hl 0 rfl) ?_
  refine kpurei (wc := [(h, oX11 th aw ai ab ac hi re aP ta po en be de fa a5 sp av an ak x1 aW aC ag aT aN aF), (aw, kcI cI 2179 fw)]) hP hD hS hA [1, 2] rfl (by decide) (fun hPc hDc hFc => va_runV (As := []) (rest := [.int 1]) ⟨hx, hb, hml, hown, hts⟩ (r_shirts l D cI cJ cB cC h th aw ai ab ac hi re aP ta po en be de fa a5 sp av an ak x1 aW aC ag aT aN aF fw H.size H_fw_W) (cwV 0 hts gX11_leastCost_X11_shirts rfl rfl rfl ⟨rfl, hdX11_shirts⟩ ⟨Nat.le_of_ble_eq_true rfl, Nat.le_of_ble_eq_true rfl⟩) ⟨kBlind, va_recv hK hPc (ci := 10) (q0 := 0) rfl rfl, fun U hU hW => ⟨rfl, by rw [hU], hN.warm hW, hE.pass hS hFc hW hU, by rw [hU]; exact hPc, va_K.moved hW.alike hK, hDc⟩⟩ rfl rfl hl.1 rfl (lv_room (Nat.le_of_ble_eq_true rfl)) dX11_leastCost_6 ⟨Nat.le_of_ble_eq_true rfl, Nat.le_of_ble_eq_true rfl⟩) (fun r8 u H locs hw hP hS => ?_)
  obtain ⟨k9, k10, k11⟩ := hw
  refine lv_ishl hx hb dX11_leastCost_9 ?_
  refine lv_topi (fun x12 ex12 => ?_)
  have k13 : Rg x12 1 4096 := rg_shl1 12 ex12 k10 (by decide)
  refine lv_iconst (v := 1) hx hb dX11_leastCost_10 (by decide) ?_
  refine lv_isub hx hb dX11_leastCost_11 ?_
  refine lv_topi (fun x14 ex14 => ?_)
  have k15 : Rg x14 0 4095 := rg_sub ex14 k13 (rg_lit (n := 1) (by decide)) (by decide)
  refine lv_istore_n (lv' := [(1, .int x14), (0, .ref h)]) hx hb dX11_leastCost_12 rfl hl (by decide) rfl (fun ls hl => ?_)
  refine k_loop (hd := 13) (fun (u : Int32 × (Nat → Int32) × (Nat → Int32)) => match u with | (y6015, g6016, g6017) => ((y6015).toInt - (-1)).toNat) (fun (u : Int32 × (Nat → Int32) × (Nat → Int32)) (H : Heap) (locs : List Loc) (ls : Array Slot) => match u with | (y6015, g6016, g6017) => (F_r_leastCost (gT fw) (gT fv) (gT fn) (gT fk) (gT fC) = F_r_leastCost_l1 (gT fw) x1.toInt (gT g3) (gT g4) r8.toInt (y6015.toInt, (gT g6016), (gT g6017))) ∧ Rg y6015 (-1) 4095 ∧ va_P D vwCl [(aC, kcI cI 4096 g6016), (h, oX11 th aw ai ab ac hi re aP ta po en be de fa a5 sp av an ak x1 aW aC ag aT aN aF), (aw, kcI cI 2179 fw), (av, kcI cI 400 g6017), (an, kcI cI 10 g3), (ak, kcI cI 10 g4)] H ∧ va_D A [(aC, kcI cI 4096 g6016), (h, oX11 th aw ai ab ac hi re aP ta po en be de fa a5 sp av an ak x1 aW aC ag aT aN aF), (aw, kcI cI 2179 fw), (av, kcI cI 400 g6017), (an, kcI cI 10 g3), (ak, kcI cI 10 g4)] ∧ va_S A s.heap H locs ∧ lv_has ls 4 [(1, .int y6015), (0, .ref h)]) (x14, fC, g2) ⟨(kC_eq k7 (kC_eq rfl (kC_eq rfl (kLet_eq (k11).symm (kLet_eq (ke_shl ex12) (kLet_eq (ti_sub ex14 k13 (rg_lit (n := 1) (by decide)) (by decide) rfl rfl) rfl)))))), (rg_w k15 (by decide)), hP.sub (ws' := [(aC, kcI cI 4096 fC), (h, oX11 th aw ai ab ac hi re aP ta po en be de fa a5 sp av an ak x1 aW aC ag aT aN aF), (aw, kcI cI 2179 fw), (av, kcI cI 400 g2), (an, kcI cI 10 g3), (ak, kcI cI 10 g4)]) [0, 1, 2, 3, 4, 5] rfl, hD.sub (ws' := [(aC, kcI cI 4096 fC), (h, oX11 th aw ai ab ac hi re aP ta po en be de fa a5 sp av an ak x1 aW aC ag aT aN aF), (aw, kcI cI 2179 fw), (av, kcI cI 400 g2), (an, kcI cI 10 g3), (ak, kcI cI 10 g4)]) [0, 1, 2, 3, 4, 5] (by decide) rfl, hS, lv_sub (l' := [(1, .int x14), (0, .ref h)]) hl [0, 1] rfl⟩ (fun u H locs ls hI ih6018 => ?_)
  clear hP hD hS hl
  obtain ⟨y6015, g6016, g6017⟩ := u
  obtain ⟨hF1, hy6015, hP, hD, hS, hl⟩ := hI
  have hP : va_P D vwCl [(aC, kcI cI 4096 g6016), (h, oX11 th aw ai ab ac hi re aP ta po en be de fa a5 sp av an ak x1 aW aC ag aT aN aF), (aw, kcI cI 2179 fw), (av, kcI cI 400 g6017), (an, kcI cI 10 g3), (ak, kcI cI 10 g4)] H := hP
  have hD : va_D A [(aC, kcI cI 4096 g6016), (h, oX11 th aw ai ab ac hi re aP ta po en be de fa a5 sp av an ak x1 aW aC ag aT aN aF), (aw, kcI cI 2179 fw), (av, kcI cI 400 g6017), (an, kcI cI 10 g3), (ak, kcI cI 10 g4)] := hD
  have hl : lv_has ls 4 [(1, .int y6015), (0, .ref h)] := hl
  refine lv_iload_n hx hb dX11_leastCost_13 rfl (lv_at hl 0 rfl) ?_
  refine lv_if_lt (tgt := 142) hx hb dX11_leastCost_14 (by decide) (fun c6019 => ?_) (fun c6019 => ?_)
  · skip
    have k6020 : Rg y6015 (-1) (-1) := rg_l1 (ltI c6019) hy6015 (rg_lit (n := 0) (by decide)) (by decide)
    refine lv_aload_n hx hb dX11_leastCost_142 rfl (lv_at hl 1 rfl) ?_
    refine va_get (D := D) (ci := 10) (v := .ref aC) (C := RX11) (T := TX11) (N := 26) hx hb hts iG_X11 hown hK hP 1 rfl rfl 21 (by decide) (hts _ w5_15) (fun _ h9 => h9) rfl dX11_leastCost_143 ?_
    refine lv_iconst (v := 0) hx hb dX11_leastCost_146 (by decide) ?_
    refine va_iald hx hb hK hP 0 0 rfl rfl (rg_in (rg_lit (n := 0) (by decide)) (by decide)) dX11_leastCost_147 ?_
    refine lv_topi (fun x6021 ex6021 => ?_)
    have hP9 := hP.sub (ws' := [(h, oX11 th aw ai ab ac hi re aP ta po en be de fa a5 sp av an ak x1 aW aC ag aT aN aF), (aw, kcI cI 2179 fw), (av, kcI cI 400 g6017), (an, kcI cI 10 g3), (ak, kcI cI 10 g4), (aC, kcI cI 4096 g6016)]) [1, 2, 3, 4, 5, 0] rfl
    have hD9 := hD.sub (ws' := [(h, oX11 th aw ai ab ac hi re aP ta po en be de fa a5 sp av an ak x1 aW aC ag aT aN aF), (aw, kcI cI 2179 fw), (av, kcI cI 400 g6017), (an, kcI cI 10 g3), (ak, kcI cI 10 g4), (aC, kcI cI 4096 g6016)]) [1, 2, 3, 4, 5, 0] (by decide) rfl
    exact W.iret (v := x6021) hx hb hr (fun t ht hW => ⟨⟨x6021, (x1, g6017, g3, g4, g6016), rfl, ⟨k5, k6, (hF1.trans (kIter_out (kC_eq rfl (kC_eq rfl (kif_t (ltI c6019) (kLet_eq (ke_ld ex6021) rfl))))))⟩, by rw [ht]; exact hP9, va_K.moved hW.alike hK, hD9⟩, hS.F ht⟩) hS.2.2 dX11_leastCost_148
  · skip
    have k6022 : Rg y6015 0 4095 := rg_e2 (nltI c6019) (rg_lit (n := 0) (by decide)) hy6015 (by decide)
    refine lv_iload_n hx hb dX11_leastCost_17 rfl (lv_at hl 0 rfl) ?_
    refine kpurei (wc := []) hP hD hS hA [] rfl (by decide) (fun hPc hDc hFc => va_runS (As := [.int y6015]) (rest := []) ⟨hx, hb, hml, hown, hts⟩ (z_bitCount l D cI cJ cB cC y6015 H.size) (va_cwS 1 hts gX11_leastCost_J6_bitCount_0f7a4 rfl rfl rfl hdJ6_bitCount_0f7a4 ⟨Nat.le_of_ble_eq_true rfl, Nat.le_of_ble_eq_true rfl⟩) ⟨kBlind, fun U hU hW => ⟨rfl, by rw [hU], hN.warm hW, hE.pass hS hFc hW hU, by rw [hU]; exact hPc, va_K.moved hW.alike hK, hDc⟩⟩ rfl rfl hl.1 rfl (lv_room (Nat.le_of_ble_eq_true rfl)) dX11_leastCost_18 ⟨Nat.le_of_ble_eq_true rfl, Nat.le_of_ble_eq_true rfl⟩) (fun r6023 u H locs hw hP hS => ?_)
    obtain ⟨k6024, k6025⟩ := hw
    refine lv_istore_n (lv' := [(2, .int r6023), (1, .int y6015), (0, .ref h)]) hx hb dX11_leastCost_21 rfl hl (by decide) rfl (fun ls hl => ?_)
    refine lv_iload_n hx hb dX11_leastCost_22 rfl (lv_at hl 0 rfl) ?_
    refine lv_aload_n hx hb dX11_leastCost_23 rfl (lv_at hl 2 rfl) ?_
    refine va_get (D := D) (ci := 10) (v := .int x1) (C := RX11) (T := TX11) (N := 26) hx hb hts iG_X11 hown hK hP 1 rfl rfl 19 (by decide) (hts _ w40_11) (fun _ h9 => h9) rfl dX11_leastCost_24 ?_
    refine k_join (hd := 136) (cells2 := 0) (slots2 := 0) (fun (u : (Nat → Int32) × (Nat → Int32)) => match u with | (g7516, g7517) => []) (fun (u : (Nat → Int32) × (Nat → Int32)) (H : Heap) (locs : List Loc) (ls : Array Slot) => match u with | (g7516, g7517) => (F_r_leastCost_l1_s (gT fw) x1.toInt (gT g3) (gT g4) r8.toInt (y6015.toInt, (gT g6016), (gT g6017)) = F_r_leastCost_j2 y6015.toInt (gT g7516) (gT g7517)) ∧ va_P D vwCl [(aC, kcI cI 4096 g7516), (h, oX11 th aw ai ab ac hi re aP ta po en be de fa a5 sp av an ak x1 aW aC ag aT aN aF), (aw, kcI cI 2179 fw), (av, kcI cI 400 g7517), (an, kcI cI 10 g3), (ak, kcI cI 10 g4)] H ∧ va_D A [(aC, kcI cI 4096 g7516), (h, oX11 th aw ai ab ac hi re aP ta po en be de fa a5 sp av an ak x1 aW aC ag aT aN aF), (aw, kcI cI 2179 fw), (av, kcI cI 400 g7517), (an, kcI cI 10 g3), (ak, kcI cI 10 g4)] ∧ va_S A s.heap H locs ∧ lv_has ls 4 [(2, .int r6023), (1, .int y6015), (0, .ref h)]) (fun u H locs ls hI => ?_) (fun hJ136 => ?_)
    · skip
      clear hP hD hS hl
      obtain ⟨g7516, g7517⟩ := u
      obtain ⟨hF2, hP, hD, hS, hl⟩ := hI
      have hP : va_P D vwCl [(aC, kcI cI 4096 g7516), (h, oX11 th aw ai ab ac hi re aP ta po en be de fa a5 sp av an ak x1 aW aC ag aT aN aF), (aw, kcI cI 2179 fw), (av, kcI cI 400 g7517), (an, kcI cI 10 g3), (ak, kcI cI 10 g4)] H := hP
      have hD : va_D A [(aC, kcI cI 4096 g7516), (h, oX11 th aw ai ab ac hi re aP ta po en be de fa a5 sp av an ak x1 aW aC ag aT aN aF), (aw, kcI cI 2179 fw), (av, kcI cI 400 g7517), (an, kcI cI 10 g3), (ak, kcI cI 10 g4)] := hD
      have hl : lv_has ls 4 [(2, .int r6023), (1, .int y6015), (0, .ref h)] := hl
      obtain ⟨x7518, ex7518⟩ : ∃ y : Int32, y = y6015 + (-1) := ⟨_, rfl⟩
      refine lv_iinc (v := x7518) (lv' := [(1, .int x7518), (2, .int r6023), (0, .ref h)]) hx hb dX11_leastCost_136 hl (k := 1) rfl (by rw [ex7518]; rfl) (by decide) rfl (fun ls hl => ?_)
      have k7519 : Rg x7518 (-1) 4094 := rg_add ex7518 k6022 (rg_lit (n := -1) (by decide)) (by decide)
      refine lv_goto (tgt := 13) hx hb dX11_leastCost_139 (by decide) ?_
      exact ih6018 (x7518, g7516, g7517) _ _ _ (by show ((x7518).toInt - (-1)).toNat < ((y6015).toInt - (-1)).toNat; exact mu_dn ex7518 k6022 k7519 (by decide)) ⟨(hF1.trans (kIter_go (hF2.trans (kLet_eq (ti_add ex7518 k6022 (rg_lit (n := -1) (by decide)) (by decide) rfl rfl) rfl)))), (rg_w k7519 (by decide)), hP.sub (ws' := [(aC, kcI cI 4096 g7516), (h, oX11 th aw ai ab ac hi re aP ta po en be de fa a5 sp av an ak x1 aW aC ag aT aN aF), (aw, kcI cI 2179 fw), (av, kcI cI 400 g7517), (an, kcI cI 10 g3), (ak, kcI cI 10 g4)]) [0, 1, 2, 3, 4, 5] rfl, hD.sub (ws' := [(aC, kcI cI 4096 g7516), (h, oX11 th aw ai ab ac hi re aP ta po en be de fa a5 sp av an ak x1 aW aC ag aT aN aF), (aw, kcI cI 2179 fw), (av, kcI cI 400 g7517), (an, kcI cI 10 g3), (ak, kcI cI 10 g4)]) [0, 1, 2, 3, 4, 5] (by decide) rfl, hS, lv_sub (l' := [(1, .int x7518), (0, .ref h)]) hl [0, 2] rfl⟩
    refine lv_icmp_le (tgt := 33) hx hb dX11_leastCost_27 (by decide) (fun c7520 => ?_) (fun c7520 => ?_)
    · skip
      have k7521 : Rg r6023 0 10 := rg_e1 (leI c7520) k6024 k5 (by decide)
      refine lv_aload_n hx hb dX11_leastCost_33 rfl (lv_at hl 2 rfl) ?_
      refine va_get (D := D) (ci := 10) (v := .ref aC) (C := RX11) (T := TX11) (N := 26) hx hb hts iG_X11 hown hK hP 1 rfl rfl 21 (by decide) (hts _ w5_15) (fun _ h9 => h9) rfl dX11_leastCost_34 ?_
      refine lv_iload_n hx hb dX11_leastCost_37 rfl (lv_at hl 1 rfl) ?_
      refine lv_iload_n hx hb dX11_leastCost_38 rfl (lv_at hl 0 rfl) ?_
      refine lv_aload_n hx hb dX11_leastCost_39 rfl (lv_at hl 2 rfl) ?_
      refine va_get (D := D) (ci := 10) (v := .int x1) (C := RX11) (T := TX11) (N := 26) hx hb hts iG_X11 hown hK hP 1 rfl rfl 19 (by decide) (hts _ w40_11) (fun _ h9 => h9) rfl dX11_leastCost_40 ?_
      refine lv_icmp_ne (tgt := 50) hx hb dX11_leastCost_43 (by decide) (fun c7523 => ?_) (fun c7523 => ?_)
      · skip
        refine lv_ldcw (v := 1000000) hx hb hown (hts _ w42_20) dX11_leastCost_50 ?_
        refine va_iast hx hb hK hP hD hS 0 0 rfl rfl (rg_in k6022 (by decide)) dX11_leastCost_53 (fun H locs hP hD hS => ?_)
        have hP : va_P D vwCl [(aC, kcI cI 4096 (upd g6016 y6015.toNatClampNeg 1000000)), (h, oX11 th aw ai ab ac hi re aP ta po en be de fa a5 sp av an ak x1 aW aC ag aT aN aF), (aw, kcI cI 2179 fw), (av, kcI cI 400 g6017), (an, kcI cI 10 g3), (ak, kcI cI 10 g4)] H := hP
        have hD : va_D A [(aC, kcI cI 4096 (upd g6016 y6015.toNatClampNeg 1000000)), (h, oX11 th aw ai ab ac hi re aP ta po en be de fa a5 sp av an ak x1 aW aC ag aT aN aF), (aw, kcI cI 2179 fw), (av, kcI cI 400 g6017), (an, kcI cI 10 g3), (ak, kcI cI 10 g4)] := hD
        generalize hg7524 : (upd g6016 y6015.toNatClampNeg 1000000) = g7524 at hP hD
        refine lv_iconst (v := 0) hx hb dX11_leastCost_54 (by decide) ?_
        refine lv_istore_n (lv' := [(3, .int 0), (2, .int r6023), (1, .int y6015), (0, .ref h)]) hx hb dX11_leastCost_55 rfl hl (by decide) rfl (fun ls hl => ?_)
        refine k_loop (hd := 56) (fun (u : Int32 × (Nat → Int32) × (Nat → Int32)) => match u with | (y8222, g8223, g8224) => (12 - (y8222).toInt).toNat) (fun (u : Int32 × (Nat → Int32) × (Nat → Int32)) (H : Heap) (locs : List Loc) (ls : Array Slot) => match u with | (y8222, g8223, g8224) => (F_r_leastCost_l1_s (gT fw) x1.toInt (gT g3) (gT g4) r8.toInt (y6015.toInt, (gT g6016), (gT g6017)) = F_r_leastCost_l3 (gT fw) x1.toInt (gT g3) (gT g4) r8.toInt y6015.toInt r6023.toInt (y8222.toInt, (gT g8223), (gT g8224))) ∧ Rg y8222 0 12 ∧ va_P D vwCl [(aC, kcI cI 4096 g8223), (h, oX11 th aw ai ab ac hi re aP ta po en be de fa a5 sp av an ak x1 aW aC ag aT aN aF), (aw, kcI cI 2179 fw), (av, kcI cI 400 g8224), (an, kcI cI 10 g3), (ak, kcI cI 10 g4)] H ∧ va_D A [(aC, kcI cI 4096 g8223), (h, oX11 th aw ai ab ac hi re aP ta po en be de fa a5 sp av an ak x1 aW aC ag aT aN aF), (aw, kcI cI 2179 fw), (av, kcI cI 400 g8224), (an, kcI cI 10 g3), (ak, kcI cI 10 g4)] ∧ va_S A s.heap H locs ∧ lv_has ls 4 [(3, .int y8222), (2, .int r6023), (1, .int y6015), (0, .ref h)]) ((0 : Int32), g7524, g6017) ⟨(kC_eq rfl (kC_eq rfl (kif_f (xF_lt c6019) (kLet_eq (k6025).symm (kif_t (leI c7520) (kif_f (neI c7523) (kLet_eq (ke_st hg7524) rfl))))))), (rg_w (rg_lit (n := 0) (by decide)) (by decide)), hP.sub (ws' := [(aC, kcI cI 4096 g7524), (h, oX11 th aw ai ab ac hi re aP ta po en be de fa a5 sp av an ak x1 aW aC ag aT aN aF), (aw, kcI cI 2179 fw), (av, kcI cI 400 g6017), (an, kcI cI 10 g3), (ak, kcI cI 10 g4)]) [0, 1, 2, 3, 4, 5] rfl, hD.sub (ws' := [(aC, kcI cI 4096 g7524), (h, oX11 th aw ai ab ac hi re aP ta po en be de fa a5 sp av an ak x1 aW aC ag aT aN aF), (aw, kcI cI 2179 fw), (av, kcI cI 400 g6017), (an, kcI cI 10 g3), (ak, kcI cI 10 g4)]) [0, 1, 2, 3, 4, 5] (by decide) rfl, hS, lv_sub (l' := [(3, .int 0), (2, .int r6023), (1, .int y6015), (0, .ref h)]) hl [0, 1, 2, 3] rfl⟩ (fun u H locs ls hI ih8225 => ?_)
        clear hP hD hS hl
        obtain ⟨y8222, g8223, g8224⟩ := u
        obtain ⟨hF3, hy8222, hP, hD, hS, hl⟩ := hI
        have hP : va_P D vwCl [(aC, kcI cI 4096 g8223), (h, oX11 th aw ai ab ac hi re aP ta po en be de fa a5 sp av an ak x1 aW aC ag aT aN aF), (aw, kcI cI 2179 fw), (av, kcI cI 400 g8224), (an, kcI cI 10 g3), (ak, kcI cI 10 g4)] H := hP
        have hD : va_D A [(aC, kcI cI 4096 g8223), (h, oX11 th aw ai ab ac hi re aP ta po en be de fa a5 sp av an ak x1 aW aC ag aT aN aF), (aw, kcI cI 2179 fw), (av, kcI cI 400 g8224), (an, kcI cI 10 g3), (ak, kcI cI 10 g4)] := hD
        have hl : lv_has ls 4 [(3, .int y8222), (2, .int r6023), (1, .int y6015), (0, .ref h)] := hl
        refine lv_iload_n hx hb dX11_leastCost_56 rfl (lv_at hl 0 rfl) ?_
        refine lv_aload_n hx hb dX11_leastCost_57 rfl (lv_at hl 3 rfl) ?_
        refine kpurei (wc := [(h, oX11 th aw ai ab ac hi re aP ta po en be de fa a5 sp av an ak x1 aW aC ag aT aN aF), (aw, kcI cI 2179 fw)]) hP hD hS hA [1, 2] rfl (by decide) (fun hPc hDc hFc => va_runV (As := []) (rest := [.int y8222]) ⟨hx, hb, hml, hown, hts⟩ (r_shirts l D cI cJ cB cC h th aw ai ab ac hi re aP ta po en be de fa a5 sp av an ak x1 aW aC ag aT aN aF fw H.size H_fw_W) (cwV 0 hts gX11_leastCost_X11_shirts rfl rfl rfl ⟨rfl, hdX11_shirts⟩ ⟨Nat.le_of_ble_eq_true rfl, Nat.le_of_ble_eq_true rfl⟩) ⟨kBlind, va_recv hK hPc (ci := 10) (q0 := 0) rfl rfl, fun U hU hW => ⟨rfl, by rw [hU], hN.warm hW, hE.pass hS hFc hW hU, by rw [hU]; exact hPc, va_K.moved hW.alike hK, hDc⟩⟩ rfl rfl hl.1 rfl (lv_room (Nat.le_of_ble_eq_true rfl)) dX11_leastCost_58 ⟨Nat.le_of_ble_eq_true rfl, Nat.le_of_ble_eq_true rfl⟩) (fun r8226 u H locs hw hP hS => ?_)
        obtain ⟨k8227, k8228, k8229⟩ := hw
        obtain rfl : r8 = r8226 := k9.trans k8227.symm
        refine lv_icmp_ge (tgt := 136) hx hb dX11_leastCost_61 (by decide) (fun c8230 => ?_) (fun c8230 => ?_)
        · skip
          exact hJ136 (g8223, g8224) _ _ _ ⟨(hF3.trans (kIter_out (kC_eq rfl (kC_eq rfl (kLet_eq (k8229).symm (kif_t (leI c8230) rfl)))))), hP.sub (ws' := [(aC, kcI cI 4096 g8223), (h, oX11 th aw ai ab ac hi re aP ta po en be de fa a5 sp av an ak x1 aW aC ag aT aN aF), (aw, kcI cI 2179 fw), (av, kcI cI 400 g8224), (an, kcI cI 10 g3), (ak, kcI cI 10 g4)]) [0, 1, 2, 3, 4, 5] rfl, hD.sub (ws' := [(aC, kcI cI 4096 g8223), (h, oX11 th aw ai ab ac hi re aP ta po en be de fa a5 sp av an ak x1 aW aC ag aT aN aF), (aw, kcI cI 2179 fw), (av, kcI cI 400 g8224), (an, kcI cI 10 g3), (ak, kcI cI 10 g4)]) [0, 1, 2, 3, 4, 5] (by decide) rfl, hS, lv_sub (l' := [(2, .int r6023), (1, .int y6015), (0, .ref h)]) hl [1, 2, 3] rfl⟩
        · skip
          have k8231 : Rg y8222 0 11 := rg_l1 (nleI c8230) hy8222 k10 (by decide)
          have k8232 : Rg r8 1 12 := rg_l2 (nleI c8230) hy8222 k10 (by decide)
          refine lv_iload_n hx hb dX11_leastCost_64 rfl (lv_at hl 1 rfl) ?_
          refine lv_aload_n hx hb dX11_leastCost_65 rfl (lv_at hl 3 rfl) ?_
          refine va_get (D := D) (ci := 10) (v := .int x1) (C := RX11) (T := TX11) (N := 26) hx hb hts iG_X11 hown hK hP 1 rfl rfl 19 (by decide) (hts _ w40_11) (fun _ h9 => h9) rfl dX11_leastCost_66 ?_
          refine lv_icmp_ge (tgt := 136) hx hb dX11_leastCost_69 (by decide) (fun c8233 => ?_) (fun c8233 => ?_)
          · skip
            exact hJ136 (g8223, g8224) _ _ _ ⟨(hF3.trans (kIter_out (kC_eq rfl (kC_eq rfl (kLet_eq (k8229).symm (kif_f (xF_le c8230) (kif_t (leI c8233) rfl))))))), hP.sub (ws' := [(aC, kcI cI 4096 g8223), (h, oX11 th aw ai ab ac hi re aP ta po en be de fa a5 sp av an ak x1 aW aC ag aT aN aF), (aw, kcI cI 2179 fw), (av, kcI cI 400 g8224), (an, kcI cI 10 g3), (ak, kcI cI 10 g4)]) [0, 1, 2, 3, 4, 5] rfl, hD.sub (ws' := [(aC, kcI cI 4096 g8223), (h, oX11 th aw ai ab ac hi re aP ta po en be de fa a5 sp av an ak x1 aW aC ag aT aN aF), (aw, kcI cI 2179 fw), (av, kcI cI 400 g8224), (an, kcI cI 10 g3), (ak, kcI cI 10 g4)]) [0, 1, 2, 3, 4, 5] (by decide) rfl, hS, lv_sub (l' := [(2, .int r6023), (1, .int y6015), (0, .ref h)]) hl [1, 2, 3] rfl⟩
          · skip
            have k8234 : Rg r6023 0 9 := rg_l1 (nleI c8233) k7521 k5 (by decide)
            have k8235 : Rg x1 1 10 := rg_l2 (nleI c8233) k7521 k5 (by decide)
            refine lv_aload_n hx hb dX11_leastCost_72 rfl (lv_at hl 3 rfl) ?_
            refine va_get (D := D) (ci := 10) (v := .ref ak) (C := RX11) (T := TX11) (N := 26) hx hb hts iG_X11 hown hK hP 1 rfl rfl 18 (by decide) (hts _ w5_13) (fun _ h9 => h9) rfl dX11_leastCost_73 ?_
            refine lv_iload_n hx hb dX11_leastCost_76 rfl (lv_at hl 1 rfl) ?_
            refine va_iald hx hb hK hP 5 0 rfl rfl (rg_in k8234 (by decide)) dX11_leastCost_77 ?_
            refine lv_topi (fun x8236 ex8236 => ?_)
            refine lv_iload_n hx hb dX11_leastCost_78 rfl (lv_at hl 0 rfl) ?_
            refine kpurei (wc := []) hP hD hS hA [] rfl (by decide) (fun hPc hDc hFc => va_runS (As := [.int x8236, .int y8222]) (rest := []) ⟨hx, hb, hml, hown, hts⟩ (r_has l D cI cJ cB cC x8236 y8222 H.size) (va_cwS 2 hts gX11_leastCost_X11_has rfl rfl rfl hdX11_has ⟨Nat.le_of_ble_eq_true rfl, Nat.le_of_ble_eq_true rfl⟩) ⟨kBlind, fun U hU hW => ⟨rfl, by rw [hU], hN.warm hW, hE.pass hS hFc hW hU, by rw [hU]; exact hPc, va_K.moved hW.alike hK, hDc⟩⟩ rfl rfl hl.1 rfl (lv_room (Nat.le_of_ble_eq_true rfl)) dX11_leastCost_79 ⟨Nat.le_of_ble_eq_true rfl, Nat.le_of_ble_eq_true rfl⟩) (fun r8237 u H locs hw hP hS => ?_)
            obtain ⟨k8238, k8239⟩ := hw
            refine k_join (hd := 130) (cells2 := 0) (slots2 := 0) (fun (u : (Nat → Int32) × (Nat → Int32)) => match u with | (g8265, g8266) => []) (fun (u : (Nat → Int32) × (Nat → Int32)) (H : Heap) (locs : List Loc) (ls : Array Slot) => match u with | (g8265, g8266) => (F_r_leastCost_l3_s (gT fw) x1.toInt (gT g3) (gT g4) r8.toInt y6015.toInt r6023.toInt (y8222.toInt, (gT g8223), (gT g8224)) = F_r_leastCost_j4 y8222.toInt (gT g8265) (gT g8266)) ∧ va_P D vwCl [(aC, kcI cI 4096 g8265), (h, oX11 th aw ai ab ac hi re aP ta po en be de fa a5 sp av an ak x1 aW aC ag aT aN aF), (aw, kcI cI 2179 fw), (av, kcI cI 400 g8266), (an, kcI cI 10 g3), (ak, kcI cI 10 g4)] H ∧ va_D A [(aC, kcI cI 4096 g8265), (h, oX11 th aw ai ab ac hi re aP ta po en be de fa a5 sp av an ak x1 aW aC ag aT aN aF), (aw, kcI cI 2179 fw), (av, kcI cI 400 g8266), (an, kcI cI 10 g3), (ak, kcI cI 10 g4)] ∧ va_S A s.heap H locs ∧ lv_has ls 4 [(3, .int y8222), (2, .int r6023), (1, .int y6015), (0, .ref h)]) (fun u H locs ls hI => ?_) (fun hJ130 => ?_)
            · skip
              clear hP hD hS hl
              obtain ⟨g8265, g8266⟩ := u
              obtain ⟨hF4, hP, hD, hS, hl⟩ := hI
              have hP : va_P D vwCl [(aC, kcI cI 4096 g8265), (h, oX11 th aw ai ab ac hi re aP ta po en be de fa a5 sp av an ak x1 aW aC ag aT aN aF), (aw, kcI cI 2179 fw), (av, kcI cI 400 g8266), (an, kcI cI 10 g3), (ak, kcI cI 10 g4)] H := hP
              have hD : va_D A [(aC, kcI cI 4096 g8265), (h, oX11 th aw ai ab ac hi re aP ta po en be de fa a5 sp av an ak x1 aW aC ag aT aN aF), (aw, kcI cI 2179 fw), (av, kcI cI 400 g8266), (an, kcI cI 10 g3), (ak, kcI cI 10 g4)] := hD
              have hl : lv_has ls 4 [(3, .int y8222), (2, .int r6023), (1, .int y6015), (0, .ref h)] := hl
              obtain ⟨x8267, ex8267⟩ : ∃ y : Int32, y = y8222 + 1 := ⟨_, rfl⟩
              refine lv_iinc (v := x8267) (lv' := [(3, .int x8267), (2, .int r6023), (1, .int y6015), (0, .ref h)]) hx hb dX11_leastCost_130 hl (k := 0) rfl (by rw [ex8267]; rfl) (by decide) rfl (fun ls hl => ?_)
              have k8268 : Rg x8267 1 12 := rg_add ex8267 k8231 (rg_lit (n := 1) (by decide)) (by decide)
              refine lv_goto (tgt := 56) hx hb dX11_leastCost_133 (by decide) ?_
              exact ih8225 (x8267, g8265, g8266) _ _ _ (by show (12 - (x8267).toInt).toNat < (12 - (y8222).toInt).toNat; exact mu_up ex8267 k8231 k8268 (by decide)) ⟨(hF3.trans (kIter_go (hF4.trans (kLet_eq (ti_add ex8267 k8231 (rg_lit (n := 1) (by decide)) (by decide) rfl rfl) rfl)))), (rg_w k8268 (by decide)), hP.sub (ws' := [(aC, kcI cI 4096 g8265), (h, oX11 th aw ai ab ac hi re aP ta po en be de fa a5 sp av an ak x1 aW aC ag aT aN aF), (aw, kcI cI 2179 fw), (av, kcI cI 400 g8266), (an, kcI cI 10 g3), (ak, kcI cI 10 g4)]) [0, 1, 2, 3, 4, 5] rfl, hD.sub (ws' := [(aC, kcI cI 4096 g8265), (h, oX11 th aw ai ab ac hi re aP ta po en be de fa a5 sp av an ak x1 aW aC ag aT aN aF), (aw, kcI cI 2179 fw), (av, kcI cI 400 g8266), (an, kcI cI 10 g3), (ak, kcI cI 10 g4)]) [0, 1, 2, 3, 4, 5] (by decide) rfl, hS, lv_sub (l' := [(3, .int x8267), (2, .int r6023), (1, .int y6015), (0, .ref h)]) hl [0, 1, 2, 3] rfl⟩
            refine lv_if_eq (tgt := 130) hx hb dX11_leastCost_82 (by decide) (fun c8269 => ?_) (fun c8269 => ?_)
            · skip
              have k8270 : Rg r8237 0 0 := rg_q1 (eqI c8269) k8238 (rg_lit (n := 0) (by decide)) (by decide)
              exact hJ130 (g8223, g8224) _ _ _ ⟨(kC_eq rfl (kC_eq rfl (kLet_eq (k8229).symm (kif_f (xF_le c8230) (kif_f (xF_le c8233) (kLet_eq (ke_ld ex8236) (kLet_eq (k8239).symm (kif_t (eqI c8269) rfl)))))))), hP.sub (ws' := [(aC, kcI cI 4096 g8223), (h, oX11 th aw ai ab ac hi re aP ta po en be de fa a5 sp av an ak x1 aW aC ag aT aN aF), (aw, kcI cI 2179 fw), (av, kcI cI 400 g8224), (an, kcI cI 10 g3), (ak, kcI cI 10 g4)]) [0, 1, 2, 3, 4, 5] rfl, hD.sub (ws' := [(aC, kcI cI 4096 g8223), (h, oX11 th aw ai ab ac hi re aP ta po en be de fa a5 sp av an ak x1 aW aC ag aT aN aF), (aw, kcI cI 2179 fw), (av, kcI cI 400 g8224), (an, kcI cI 10 g3), (ak, kcI cI 10 g4)]) [0, 1, 2, 3, 4, 5] (by decide) rfl, hS, lv_sub (l' := [(3, .int y8222), (2, .int r6023), (1, .int y6015), (0, .ref h)]) hl [0, 1, 2, 3] rfl⟩
            · skip
              have k8271 : Rg r8237 1 1 := rg_n1 (neI c8269) k8238 (rg_lit (n := 0) (by decide)) (by decide)
              refine lv_iload_n hx hb dX11_leastCost_85 rfl (lv_at hl 2 rfl) ?_
              refine lv_iload_n hx hb dX11_leastCost_86 rfl (lv_at hl 0 rfl) ?_
              refine kpurei (wc := []) hP hD hS hA [] rfl (by decide) (fun hPc hDc hFc => va_runS (As := [.int y6015, .int y8222]) (rest := []) ⟨hx, hb, hml, hown, hts⟩ (r_has l D cI cJ cB cC y6015 y8222 H.size) (va_cwS 2 hts gX11_leastCost_X11_has rfl rfl rfl hdX11_has ⟨Nat.le_of_ble_eq_true rfl, Nat.le_of_ble_eq_true rfl⟩) ⟨kBlind, fun U hU hW => ⟨rfl, by rw [hU], hN.warm hW, hE.pass hS hFc hW hU, by rw [hU]; exact hPc, va_K.moved hW.alike hK, hDc⟩⟩ rfl rfl hl.1 rfl (lv_room (Nat.le_of_ble_eq_true rfl)) dX11_leastCost_87 ⟨Nat.le_of_ble_eq_true rfl, Nat.le_of_ble_eq_true rfl⟩) (fun r8272 u H locs hw hP hS => ?_)
              obtain ⟨k8273, k8274⟩ := hw
              refine lv_if_ne (tgt := 130) hx hb dX11_leastCost_90 (by decide) (fun c8275 => ?_) (fun c8275 => ?_)
              · skip
                have k8276 : Rg r8272 1 1 := rg_n1 (neI c8275) k8273 (rg_lit (n := 0) (by decide)) (by decide)
                exact hJ130 (g8223, g8224) _ _ _ ⟨(kC_eq rfl (kC_eq rfl (kLet_eq (k8229).symm (kif_f (xF_le c8230) (kif_f (xF_le c8233) (kLet_eq (ke_ld ex8236) (kLet_eq (k8239).symm (kif_f (neI c8269) (kLet_eq (k8274).symm (kif_f (neI c8275) rfl)))))))))), hP.sub (ws' := [(aC, kcI cI 4096 g8223), (h, oX11 th aw ai ab ac hi re aP ta po en be de fa a5 sp av an ak x1 aW aC ag aT aN aF), (aw, kcI cI 2179 fw), (av, kcI cI 400 g8224), (an, kcI cI 10 g3), (ak, kcI cI 10 g4)]) [0, 1, 2, 3, 4, 5] rfl, hD.sub (ws' := [(aC, kcI cI 4096 g8223), (h, oX11 th aw ai ab ac hi re aP ta po en be de fa a5 sp av an ak x1 aW aC ag aT aN aF), (aw, kcI cI 2179 fw), (av, kcI cI 400 g8224), (an, kcI cI 10 g3), (ak, kcI cI 10 g4)]) [0, 1, 2, 3, 4, 5] (by decide) rfl, hS, lv_sub (l' := [(3, .int y8222), (2, .int r6023), (1, .int y6015), (0, .ref h)]) hl [0, 1, 2, 3] rfl⟩
              · skip
                have k8277 : Rg r8272 0 0 := rg_q1 (eqI c8275) k8273 (rg_lit (n := 0) (by decide)) (by decide)
                refine lv_aload_n hx hb dX11_leastCost_93 rfl (lv_at hl 3 rfl) ?_
                refine va_get (D := D) (ci := 10) (v := .ref aC) (C := RX11) (T := TX11) (N := 26) hx hb hts iG_X11 hown hK hP 1 rfl rfl 21 (by decide) (hts _ w5_15) (fun _ h9 => h9) rfl dX11_leastCost_94 ?_
                refine lv_iload_n hx hb dX11_leastCost_97 rfl (lv_at hl 2 rfl) ?_
                refine lv_aload_n hx hb dX11_leastCost_98 rfl (lv_at hl 3 rfl) ?_
                refine va_get (D := D) (ci := 10) (v := .ref aC) (C := RX11) (T := TX11) (N := 26) hx hb hts iG_X11 hown hK hP 1 rfl rfl 21 (by decide) (hts _ w5_15) (fun _ h9 => h9) rfl dX11_leastCost_99 ?_
                refine lv_iload_n hx hb dX11_leastCost_102 rfl (lv_at hl 2 rfl) ?_
                refine va_iald hx hb hK hP 0 0 rfl rfl (rg_in k6022 (by decide)) dX11_leastCost_103 ?_
                refine lv_topi (fun x8278 ex8278 => ?_)
                refine lv_aload_n hx hb dX11_leastCost_104 rfl (lv_at hl 3 rfl) ?_
                refine lv_aload_n hx hb dX11_leastCost_105 rfl (lv_at hl 3 rfl) ?_
                refine va_get (D := D) (ci := 10) (v := .ref an) (C := RX11) (T := TX11) (N := 26) hx hb hts iG_X11 hown hK hP 1 rfl rfl 17 (by decide) (hts _ w5_12) (fun _ h9 => h9) rfl dX11_leastCost_106 ?_
                refine lv_iload_n hx hb dX11_leastCost_109 rfl (lv_at hl 1 rfl) ?_
                refine va_iald hx hb hK hP 4 0 rfl rfl (rg_in k8234 (by decide)) dX11_leastCost_110 ?_
                refine lv_topi (fun x8279 ex8279 => ?_)
                have k8280 : Rg x8279 0 9 := wN_rd k6 ex8279
                refine lv_iload_n hx hb dX11_leastCost_111 rfl (lv_at hl 0 rfl) ?_
                refine kcalli (wc := [(h, oX11 th aw ai ab ac hi re aP ta po en be de fa a5 sp av an ak x1 aW aC ag aT aN aF), (aw, kcI cI 2179 fw), (av, kcI cI 400 g8224)]) (wr := [(aC, kcI cI 4096 g8223), (an, kcI cI 10 g3), (ak, kcI cI 10 g4)]) hP hD hS hA [1, 2, 3] [0, 4, 5] rfl rfl (by decide) (by decide) (by decide) (fun hPc hDc hFc => va_runV (As := [.int x8279, .int y8222]) (rest := [.int x8278, .int y6015, .ref aC]) ⟨hx, hb, hml, hown, hts⟩ (r_costOf l D cI cJ cB cC h th aw ai ab ac hi re aP ta po en be de fa a5 sp av an ak x1 aW aC ag aT aN aF fw g8224 x8279 y8222 H.size k8280 k8231 H_fw_W H_fw_L) (cwV 2 hts gX11_leastCost_X11_costOf rfl rfl rfl ⟨rfl, hdX11_costOf⟩ ⟨Nat.le_of_ble_eq_true rfl, Nat.le_of_ble_eq_true rfl⟩) ⟨kBlind, va_recv hK hPc (ci := 10) (q0 := 0) rfl rfl, fun U hU hW => ⟨rfl, by rw [hU], hN.warm hW, hE.pass hS hFc hW hU, by rw [hU]; exact hPc, va_K.moved hW.alike hK, hDc⟩⟩ rfl rfl hl.1 rfl (lv_room (Nat.le_of_ble_eq_true rfl)) dX11_leastCost_112 ⟨Nat.le_of_ble_eq_true rfl, Nat.le_of_ble_eq_true rfl⟩) (fun r8281 u H locs hw hP hD hS => ?_)
                obtain ⟨g8282, rfl⟩ : ∃ z, z = u := ⟨_, rfl⟩
                have hP : va_P D vwCl [(aC, kcI cI 4096 g8223), (an, kcI cI 10 g3), (ak, kcI cI 10 g4), (h, oX11 th aw ai ab ac hi re aP ta po en be de fa a5 sp av an ak x1 aW aC ag aT aN aF), (aw, kcI cI 2179 fw), (av, kcI cI 400 g8282)] H := hP
                have hD : va_D A [(aC, kcI cI 4096 g8223), (an, kcI cI 10 g3), (ak, kcI cI 10 g4), (h, oX11 th aw ai ab ac hi re aP ta po en be de fa a5 sp av an ak x1 aW aC ag aT aN aF), (aw, kcI cI 2179 fw), (av, kcI cI 400 g8282)] := hD
                have k8283 := hw
                refine lv_aload_n hx hb dX11_leastCost_115 rfl (lv_at hl 3 rfl) ?_
                refine va_get (D := D) (ci := 10) (v := .ref aC) (C := RX11) (T := TX11) (N := 26) hx hb hts iG_X11 hown hK hP 3 rfl rfl 21 (by decide) (hts _ w5_15) (fun _ h9 => h9) rfl dX11_leastCost_116 ?_
                refine lv_iload_n hx hb dX11_leastCost_119 rfl (lv_at hl 2 rfl) ?_
                refine lv_iconst (v := 1) hx hb dX11_leastCost_120 (by decide) ?_
                refine lv_iload_n hx hb dX11_leastCost_121 rfl (lv_at hl 0 rfl) ?_
                refine lv_ishl hx hb dX11_leastCost_122 ?_
                refine lv_topi (fun x8284 ex8284 => ?_)
                have k8285 : Rg x8284 1 2048 := rg_shl1 11 ex8284 k8231 (by decide)
                refine lv_ior hx hb dX11_leastCost_123 ?_
                refine lv_topi (fun x8286 ex8286 => ?_)
                have k8287 : Rg x8286 0 4095 := rg_or 12 ex8286 k6022 k8285 (by decide)
                refine va_iald hx hb hK hP 0 0 rfl rfl (rg_in k8287 (by decide)) dX11_leastCost_124 ?_
                refine lv_topi (fun x8288 ex8288 => ?_)
                refine lv_iadd hx hb dX11_leastCost_125 ?_
                refine lv_topi (fun x8289 ex8289 => ?_)
                refine va_mmin hx hb (by rw [hml]; exact hl.1.symm) hown (hts _ w34_17) (hts _ w24_21) (hts _ w8_7) (hts _ w24_22) (Nat.le_of_ble_eq_true rfl) (Nat.le_of_ble_eq_true rfl) (Nat.le_of_ble_eq_true rfl) (Nat.le_of_ble_eq_true rfl) dX11_leastCost_126 ?_
                refine lv_topi (fun x8290 ex8290 => ?_)
                refine va_iast hx hb hK hP hD hS 0 0 rfl rfl (rg_in k6022 (by decide)) dX11_leastCost_129 (fun H locs hP hD hS => ?_)
                have hP : va_P D vwCl [(aC, kcI cI 4096 (upd g8223 y6015.toNatClampNeg x8290)), (an, kcI cI 10 g3), (ak, kcI cI 10 g4), (h, oX11 th aw ai ab ac hi re aP ta po en be de fa a5 sp av an ak x1 aW aC ag aT aN aF), (aw, kcI cI 2179 fw), (av, kcI cI 400 g8282)] H := hP
                have hD : va_D A [(aC, kcI cI 4096 (upd g8223 y6015.toNatClampNeg x8290)), (an, kcI cI 10 g3), (ak, kcI cI 10 g4), (h, oX11 th aw ai ab ac hi re aP ta po en be de fa a5 sp av an ak x1 aW aC ag aT aN aF), (aw, kcI cI 2179 fw), (av, kcI cI 400 g8282)] := hD
                generalize hg8291 : (upd g8223 y6015.toNatClampNeg x8290) = g8291 at hP hD
                exact hJ130 (g8291, g8282) _ _ _ ⟨(kC_eq rfl (kC_eq rfl (kLet_eq (k8229).symm (kif_f (xF_le c8230) (kif_f (xF_le c8233) (kLet_eq (ke_ld ex8236) (kLet_eq (k8239).symm (kif_f (neI c8269) (kLet_eq (k8274).symm (kif_t (eqI c8275) (kLet_eq (ke_ld ex8278) (kLet_eq (ke_ld ex8279) (kC_eq k8283 (kLet_eq (ke_shl ex8284) (kLet_eq (ke_or ex8286) (kLet_eq (ke_ld ex8288) (kLet_eq (ke_wadd ex8289) (kLet_eq (ke_min ex8290) (kLet_eq (ke_st hg8291) rfl))))))))))))))))))), hP.sub (ws' := [(aC, kcI cI 4096 g8291), (h, oX11 th aw ai ab ac hi re aP ta po en be de fa a5 sp av an ak x1 aW aC ag aT aN aF), (aw, kcI cI 2179 fw), (av, kcI cI 400 g8282), (an, kcI cI 10 g3), (ak, kcI cI 10 g4)]) [0, 3, 4, 5, 1, 2] rfl, hD.sub (ws' := [(aC, kcI cI 4096 g8291), (h, oX11 th aw ai ab ac hi re aP ta po en be de fa a5 sp av an ak x1 aW aC ag aT aN aF), (aw, kcI cI 2179 fw), (av, kcI cI 400 g8282), (an, kcI cI 10 g3), (ak, kcI cI 10 g4)]) [0, 3, 4, 5, 1, 2] (by decide) rfl, hS, lv_sub (l' := [(3, .int y8222), (2, .int r6023), (1, .int y6015), (0, .ref h)]) hl [0, 1, 2, 3] rfl⟩
      · skip
        refine lv_iconst (v := 0) hx hb dX11_leastCost_46 (by decide) ?_
        refine lv_goto (tgt := 53) hx hb dX11_leastCost_47 (by decide) ?_
        refine va_iast hx hb hK hP hD hS 0 0 rfl rfl (rg_in k6022 (by decide)) dX11_leastCost_53 (fun H locs hP hD hS => ?_)
        have hP : va_P D vwCl [(aC, kcI cI 4096 (upd g6016 y6015.toNatClampNeg 0)), (h, oX11 th aw ai ab ac hi re aP ta po en be de fa a5 sp av an ak x1 aW aC ag aT aN aF), (aw, kcI cI 2179 fw), (av, kcI cI 400 g6017), (an, kcI cI 10 g3), (ak, kcI cI 10 g4)] H := hP
        have hD : va_D A [(aC, kcI cI 4096 (upd g6016 y6015.toNatClampNeg 0)), (h, oX11 th aw ai ab ac hi re aP ta po en be de fa a5 sp av an ak x1 aW aC ag aT aN aF), (aw, kcI cI 2179 fw), (av, kcI cI 400 g6017), (an, kcI cI 10 g3), (ak, kcI cI 10 g4)] := hD
        generalize hg8292 : (upd g6016 y6015.toNatClampNeg 0) = g8292 at hP hD
        refine lv_iconst (v := 0) hx hb dX11_leastCost_54 (by decide) ?_
        refine lv_istore_n (lv' := [(3, .int 0), (2, .int r6023), (1, .int y6015), (0, .ref h)]) hx hb dX11_leastCost_55 rfl hl (by decide) rfl (fun ls hl => ?_)
        refine k_loop (hd := 56) (fun (u : Int32 × (Nat → Int32) × (Nat → Int32)) => match u with | (y8990, g8991, g8992) => (12 - (y8990).toInt).toNat) (fun (u : Int32 × (Nat → Int32) × (Nat → Int32)) (H : Heap) (locs : List Loc) (ls : Array Slot) => match u with | (y8990, g8991, g8992) => (F_r_leastCost_l1_s (gT fw) x1.toInt (gT g3) (gT g4) r8.toInt (y6015.toInt, (gT g6016), (gT g6017)) = F_r_leastCost_l5 (gT fw) x1.toInt (gT g3) (gT g4) r8.toInt y6015.toInt r6023.toInt (y8990.toInt, (gT g8991), (gT g8992))) ∧ Rg y8990 0 12 ∧ va_P D vwCl [(aC, kcI cI 4096 g8991), (h, oX11 th aw ai ab ac hi re aP ta po en be de fa a5 sp av an ak x1 aW aC ag aT aN aF), (aw, kcI cI 2179 fw), (av, kcI cI 400 g8992), (an, kcI cI 10 g3), (ak, kcI cI 10 g4)] H ∧ va_D A [(aC, kcI cI 4096 g8991), (h, oX11 th aw ai ab ac hi re aP ta po en be de fa a5 sp av an ak x1 aW aC ag aT aN aF), (aw, kcI cI 2179 fw), (av, kcI cI 400 g8992), (an, kcI cI 10 g3), (ak, kcI cI 10 g4)] ∧ va_S A s.heap H locs ∧ lv_has ls 4 [(3, .int y8990), (2, .int r6023), (1, .int y6015), (0, .ref h)]) ((0 : Int32), g8292, g6017) ⟨(kC_eq rfl (kC_eq rfl (kif_f (xF_lt c6019) (kLet_eq (k6025).symm (kif_t (leI c7520) (kif_t (eqI c7523) (kLet_eq (ke_st hg8292) rfl))))))), (rg_w (rg_lit (n := 0) (by decide)) (by decide)), hP.sub (ws' := [(aC, kcI cI 4096 g8292), (h, oX11 th aw ai ab ac hi re aP ta po en be de fa a5 sp av an ak x1 aW aC ag aT aN aF), (aw, kcI cI 2179 fw), (av, kcI cI 400 g6017), (an, kcI cI 10 g3), (ak, kcI cI 10 g4)]) [0, 1, 2, 3, 4, 5] rfl, hD.sub (ws' := [(aC, kcI cI 4096 g8292), (h, oX11 th aw ai ab ac hi re aP ta po en be de fa a5 sp av an ak x1 aW aC ag aT aN aF), (aw, kcI cI 2179 fw), (av, kcI cI 400 g6017), (an, kcI cI 10 g3), (ak, kcI cI 10 g4)]) [0, 1, 2, 3, 4, 5] (by decide) rfl, hS, lv_sub (l' := [(3, .int 0), (2, .int r6023), (1, .int y6015), (0, .ref h)]) hl [0, 1, 2, 3] rfl⟩ (fun u H locs ls hI ih8993 => ?_)
        clear hP hD hS hl
        obtain ⟨y8990, g8991, g8992⟩ := u
        obtain ⟨hF5, hy8990, hP, hD, hS, hl⟩ := hI
        have hP : va_P D vwCl [(aC, kcI cI 4096 g8991), (h, oX11 th aw ai ab ac hi re aP ta po en be de fa a5 sp av an ak x1 aW aC ag aT aN aF), (aw, kcI cI 2179 fw), (av, kcI cI 400 g8992), (an, kcI cI 10 g3), (ak, kcI cI 10 g4)] H := hP
        have hD : va_D A [(aC, kcI cI 4096 g8991), (h, oX11 th aw ai ab ac hi re aP ta po en be de fa a5 sp av an ak x1 aW aC ag aT aN aF), (aw, kcI cI 2179 fw), (av, kcI cI 400 g8992), (an, kcI cI 10 g3), (ak, kcI cI 10 g4)] := hD
        have hl : lv_has ls 4 [(3, .int y8990), (2, .int r6023), (1, .int y6015), (0, .ref h)] := hl
        refine lv_iload_n hx hb dX11_leastCost_56 rfl (lv_at hl 0 rfl) ?_
        refine lv_aload_n hx hb dX11_leastCost_57 rfl (lv_at hl 3 rfl) ?_
        refine kpurei (wc := [(h, oX11 th aw ai ab ac hi re aP ta po en be de fa a5 sp av an ak x1 aW aC ag aT aN aF), (aw, kcI cI 2179 fw)]) hP hD hS hA [1, 2] rfl (by decide) (fun hPc hDc hFc => va_runV (As := []) (rest := [.int y8990]) ⟨hx, hb, hml, hown, hts⟩ (r_shirts l D cI cJ cB cC h th aw ai ab ac hi re aP ta po en be de fa a5 sp av an ak x1 aW aC ag aT aN aF fw H.size H_fw_W) (cwV 0 hts gX11_leastCost_X11_shirts rfl rfl rfl ⟨rfl, hdX11_shirts⟩ ⟨Nat.le_of_ble_eq_true rfl, Nat.le_of_ble_eq_true rfl⟩) ⟨kBlind, va_recv hK hPc (ci := 10) (q0 := 0) rfl rfl, fun U hU hW => ⟨rfl, by rw [hU], hN.warm hW, hE.pass hS hFc hW hU, by rw [hU]; exact hPc, va_K.moved hW.alike hK, hDc⟩⟩ rfl rfl hl.1 rfl (lv_room (Nat.le_of_ble_eq_true rfl)) dX11_leastCost_58 ⟨Nat.le_of_ble_eq_true rfl, Nat.le_of_ble_eq_true rfl⟩) (fun r8994 u H locs hw hP hS => ?_)
        obtain ⟨k8995, k8996, k8997⟩ := hw
        obtain rfl : r8 = r8994 := k9.trans k8995.symm
        refine lv_icmp_ge (tgt := 136) hx hb dX11_leastCost_61 (by decide) (fun c8998 => ?_) (fun c8998 => ?_)
        · skip
          exact hJ136 (g8991, g8992) _ _ _ ⟨(hF5.trans (kIter_out (kC_eq rfl (kC_eq rfl (kLet_eq (k8997).symm (kif_t (leI c8998) rfl)))))), hP.sub (ws' := [(aC, kcI cI 4096 g8991), (h, oX11 th aw ai ab ac hi re aP ta po en be de fa a5 sp av an ak x1 aW aC ag aT aN aF), (aw, kcI cI 2179 fw), (av, kcI cI 400 g8992), (an, kcI cI 10 g3), (ak, kcI cI 10 g4)]) [0, 1, 2, 3, 4, 5] rfl, hD.sub (ws' := [(aC, kcI cI 4096 g8991), (h, oX11 th aw ai ab ac hi re aP ta po en be de fa a5 sp av an ak x1 aW aC ag aT aN aF), (aw, kcI cI 2179 fw), (av, kcI cI 400 g8992), (an, kcI cI 10 g3), (ak, kcI cI 10 g4)]) [0, 1, 2, 3, 4, 5] (by decide) rfl, hS, lv_sub (l' := [(2, .int r6023), (1, .int y6015), (0, .ref h)]) hl [1, 2, 3] rfl⟩
        · skip
          have k8999 : Rg y8990 0 11 := rg_l1 (nleI c8998) hy8990 k10 (by decide)
          have k9000 : Rg r8 1 12 := rg_l2 (nleI c8998) hy8990 k10 (by decide)
          refine lv_iload_n hx hb dX11_leastCost_64 rfl (lv_at hl 1 rfl) ?_
          refine lv_aload_n hx hb dX11_leastCost_65 rfl (lv_at hl 3 rfl) ?_
          refine va_get (D := D) (ci := 10) (v := .int x1) (C := RX11) (T := TX11) (N := 26) hx hb hts iG_X11 hown hK hP 1 rfl rfl 19 (by decide) (hts _ w40_11) (fun _ h9 => h9) rfl dX11_leastCost_66 ?_
          refine lv_icmp_ge (tgt := 136) hx hb dX11_leastCost_69 (by decide) (fun c9001 => ?_) (fun c9001 => ?_)
          · skip
            exact hJ136 (g8991, g8992) _ _ _ ⟨(hF5.trans (kIter_out (kC_eq rfl (kC_eq rfl (kLet_eq (k8997).symm (kif_f (xF_le c8998) (kif_t (leI c9001) rfl))))))), hP.sub (ws' := [(aC, kcI cI 4096 g8991), (h, oX11 th aw ai ab ac hi re aP ta po en be de fa a5 sp av an ak x1 aW aC ag aT aN aF), (aw, kcI cI 2179 fw), (av, kcI cI 400 g8992), (an, kcI cI 10 g3), (ak, kcI cI 10 g4)]) [0, 1, 2, 3, 4, 5] rfl, hD.sub (ws' := [(aC, kcI cI 4096 g8991), (h, oX11 th aw ai ab ac hi re aP ta po en be de fa a5 sp av an ak x1 aW aC ag aT aN aF), (aw, kcI cI 2179 fw), (av, kcI cI 400 g8992), (an, kcI cI 10 g3), (ak, kcI cI 10 g4)]) [0, 1, 2, 3, 4, 5] (by decide) rfl, hS, lv_sub (l' := [(2, .int r6023), (1, .int y6015), (0, .ref h)]) hl [1, 2, 3] rfl⟩
          · skip
            have k9002 : Rg r6023 0 9 := rg_l1 (nleI c9001) k7521 k5 (by decide)
            have k9003 : Rg x1 1 10 := rg_l2 (nleI c9001) k7521 k5 (by decide)
            refine lv_aload_n hx hb dX11_leastCost_72 rfl (lv_at hl 3 rfl) ?_
            refine va_get (D := D) (ci := 10) (v := .ref ak) (C := RX11) (T := TX11) (N := 26) hx hb hts iG_X11 hown hK hP 1 rfl rfl 18 (by decide) (hts _ w5_13) (fun _ h9 => h9) rfl dX11_leastCost_73 ?_
            refine lv_iload_n hx hb dX11_leastCost_76 rfl (lv_at hl 1 rfl) ?_
            refine va_iald hx hb hK hP 5 0 rfl rfl (rg_in k9002 (by decide)) dX11_leastCost_77 ?_
            refine lv_topi (fun x9004 ex9004 => ?_)
            refine lv_iload_n hx hb dX11_leastCost_78 rfl (lv_at hl 0 rfl) ?_
            refine kpurei (wc := []) hP hD hS hA [] rfl (by decide) (fun hPc hDc hFc => va_runS (As := [.int x9004, .int y8990]) (rest := []) ⟨hx, hb, hml, hown, hts⟩ (r_has l D cI cJ cB cC x9004 y8990 H.size) (va_cwS 2 hts gX11_leastCost_X11_has rfl rfl rfl hdX11_has ⟨Nat.le_of_ble_eq_true rfl, Nat.le_of_ble_eq_true rfl⟩) ⟨kBlind, fun U hU hW => ⟨rfl, by rw [hU], hN.warm hW, hE.pass hS hFc hW hU, by rw [hU]; exact hPc, va_K.moved hW.alike hK, hDc⟩⟩ rfl rfl hl.1 rfl (lv_room (Nat.le_of_ble_eq_true rfl)) dX11_leastCost_79 ⟨Nat.le_of_ble_eq_true rfl, Nat.le_of_ble_eq_true rfl⟩) (fun r9005 u H locs hw hP hS => ?_)
            obtain ⟨k9006, k9007⟩ := hw
            refine k_join (hd := 130) (cells2 := 0) (slots2 := 0) (fun (u : (Nat → Int32) × (Nat → Int32)) => match u with | (g9033, g9034) => []) (fun (u : (Nat → Int32) × (Nat → Int32)) (H : Heap) (locs : List Loc) (ls : Array Slot) => match u with | (g9033, g9034) => (F_r_leastCost_l5_s (gT fw) x1.toInt (gT g3) (gT g4) r8.toInt y6015.toInt r6023.toInt (y8990.toInt, (gT g8991), (gT g8992)) = F_r_leastCost_j6 y8990.toInt (gT g9033) (gT g9034)) ∧ va_P D vwCl [(aC, kcI cI 4096 g9033), (h, oX11 th aw ai ab ac hi re aP ta po en be de fa a5 sp av an ak x1 aW aC ag aT aN aF), (aw, kcI cI 2179 fw), (av, kcI cI 400 g9034), (an, kcI cI 10 g3), (ak, kcI cI 10 g4)] H ∧ va_D A [(aC, kcI cI 4096 g9033), (h, oX11 th aw ai ab ac hi re aP ta po en be de fa a5 sp av an ak x1 aW aC ag aT aN aF), (aw, kcI cI 2179 fw), (av, kcI cI 400 g9034), (an, kcI cI 10 g3), (ak, kcI cI 10 g4)] ∧ va_S A s.heap H locs ∧ lv_has ls 4 [(3, .int y8990), (2, .int r6023), (1, .int y6015), (0, .ref h)]) (fun u H locs ls hI => ?_) (fun hJ130 => ?_)
            · skip
              clear hP hD hS hl
              obtain ⟨g9033, g9034⟩ := u
              obtain ⟨hF6, hP, hD, hS, hl⟩ := hI
              have hP : va_P D vwCl [(aC, kcI cI 4096 g9033), (h, oX11 th aw ai ab ac hi re aP ta po en be de fa a5 sp av an ak x1 aW aC ag aT aN aF), (aw, kcI cI 2179 fw), (av, kcI cI 400 g9034), (an, kcI cI 10 g3), (ak, kcI cI 10 g4)] H := hP
              have hD : va_D A [(aC, kcI cI 4096 g9033), (h, oX11 th aw ai ab ac hi re aP ta po en be de fa a5 sp av an ak x1 aW aC ag aT aN aF), (aw, kcI cI 2179 fw), (av, kcI cI 400 g9034), (an, kcI cI 10 g3), (ak, kcI cI 10 g4)] := hD
              have hl : lv_has ls 4 [(3, .int y8990), (2, .int r6023), (1, .int y6015), (0, .ref h)] := hl
              obtain ⟨x9035, ex9035⟩ : ∃ y : Int32, y = y8990 + 1 := ⟨_, rfl⟩
              refine lv_iinc (v := x9035) (lv' := [(3, .int x9035), (2, .int r6023), (1, .int y6015), (0, .ref h)]) hx hb dX11_leastCost_130 hl (k := 0) rfl (by rw [ex9035]; rfl) (by decide) rfl (fun ls hl => ?_)
              have k9036 : Rg x9035 1 12 := rg_add ex9035 k8999 (rg_lit (n := 1) (by decide)) (by decide)
              refine lv_goto (tgt := 56) hx hb dX11_leastCost_133 (by decide) ?_
              exact ih8993 (x9035, g9033, g9034) _ _ _ (by show (12 - (x9035).toInt).toNat < (12 - (y8990).toInt).toNat; exact mu_up ex9035 k8999 k9036 (by decide)) ⟨(hF5.trans (kIter_go (hF6.trans (kLet_eq (ti_add ex9035 k8999 (rg_lit (n := 1) (by decide)) (by decide) rfl rfl) rfl)))), (rg_w k9036 (by decide)), hP.sub (ws' := [(aC, kcI cI 4096 g9033), (h, oX11 th aw ai ab ac hi re aP ta po en be de fa a5 sp av an ak x1 aW aC ag aT aN aF), (aw, kcI cI 2179 fw), (av, kcI cI 400 g9034), (an, kcI cI 10 g3), (ak, kcI cI 10 g4)]) [0, 1, 2, 3, 4, 5] rfl, hD.sub (ws' := [(aC, kcI cI 4096 g9033), (h, oX11 th aw ai ab ac hi re aP ta po en be de fa a5 sp av an ak x1 aW aC ag aT aN aF), (aw, kcI cI 2179 fw), (av, kcI cI 400 g9034), (an, kcI cI 10 g3), (ak, kcI cI 10 g4)]) [0, 1, 2, 3, 4, 5] (by decide) rfl, hS, lv_sub (l' := [(3, .int x9035), (2, .int r6023), (1, .int y6015), (0, .ref h)]) hl [0, 1, 2, 3] rfl⟩
            refine lv_if_eq (tgt := 130) hx hb dX11_leastCost_82 (by decide) (fun c9037 => ?_) (fun c9037 => ?_)
            · skip
              have k9038 : Rg r9005 0 0 := rg_q1 (eqI c9037) k9006 (rg_lit (n := 0) (by decide)) (by decide)
              exact hJ130 (g8991, g8992) _ _ _ ⟨(kC_eq rfl (kC_eq rfl (kLet_eq (k8997).symm (kif_f (xF_le c8998) (kif_f (xF_le c9001) (kLet_eq (ke_ld ex9004) (kLet_eq (k9007).symm (kif_t (eqI c9037) rfl)))))))), hP.sub (ws' := [(aC, kcI cI 4096 g8991), (h, oX11 th aw ai ab ac hi re aP ta po en be de fa a5 sp av an ak x1 aW aC ag aT aN aF), (aw, kcI cI 2179 fw), (av, kcI cI 400 g8992), (an, kcI cI 10 g3), (ak, kcI cI 10 g4)]) [0, 1, 2, 3, 4, 5] rfl, hD.sub (ws' := [(aC, kcI cI 4096 g8991), (h, oX11 th aw ai ab ac hi re aP ta po en be de fa a5 sp av an ak x1 aW aC ag aT aN aF), (aw, kcI cI 2179 fw), (av, kcI cI 400 g8992), (an, kcI cI 10 g3), (ak, kcI cI 10 g4)]) [0, 1, 2, 3, 4, 5] (by decide) rfl, hS, lv_sub (l' := [(3, .int y8990), (2, .int r6023), (1, .int y6015), (0, .ref h)]) hl [0, 1, 2, 3] rfl⟩
            · skip
              have k9039 : Rg r9005 1 1 := rg_n1 (neI c9037) k9006 (rg_lit (n := 0) (by decide)) (by decide)
              refine lv_iload_n hx hb dX11_leastCost_85 rfl (lv_at hl 2 rfl) ?_
              refine lv_iload_n hx hb dX11_leastCost_86 rfl (lv_at hl 0 rfl) ?_
              refine kpurei (wc := []) hP hD hS hA [] rfl (by decide) (fun hPc hDc hFc => va_runS (As := [.int y6015, .int y8990]) (rest := []) ⟨hx, hb, hml, hown, hts⟩ (r_has l D cI cJ cB cC y6015 y8990 H.size) (va_cwS 2 hts gX11_leastCost_X11_has rfl rfl rfl hdX11_has ⟨Nat.le_of_ble_eq_true rfl, Nat.le_of_ble_eq_true rfl⟩) ⟨kBlind, fun U hU hW => ⟨rfl, by rw [hU], hN.warm hW, hE.pass hS hFc hW hU, by rw [hU]; exact hPc, va_K.moved hW.alike hK, hDc⟩⟩ rfl rfl hl.1 rfl (lv_room (Nat.le_of_ble_eq_true rfl)) dX11_leastCost_87 ⟨Nat.le_of_ble_eq_true rfl, Nat.le_of_ble_eq_true rfl⟩) (fun r9040 u H locs hw hP hS => ?_)
              obtain ⟨k9041, k9042⟩ := hw
              refine lv_if_ne (tgt := 130) hx hb dX11_leastCost_90 (by decide) (fun c9043 => ?_) (fun c9043 => ?_)
              · skip
                have k9044 : Rg r9040 1 1 := rg_n1 (neI c9043) k9041 (rg_lit (n := 0) (by decide)) (by decide)
                exact hJ130 (g8991, g8992) _ _ _ ⟨(kC_eq rfl (kC_eq rfl (kLet_eq (k8997).symm (kif_f (xF_le c8998) (kif_f (xF_le c9001) (kLet_eq (ke_ld ex9004) (kLet_eq (k9007).symm (kif_f (neI c9037) (kLet_eq (k9042).symm (kif_f (neI c9043) rfl)))))))))), hP.sub (ws' := [(aC, kcI cI 4096 g8991), (h, oX11 th aw ai ab ac hi re aP ta po en be de fa a5 sp av an ak x1 aW aC ag aT aN aF), (aw, kcI cI 2179 fw), (av, kcI cI 400 g8992), (an, kcI cI 10 g3), (ak, kcI cI 10 g4)]) [0, 1, 2, 3, 4, 5] rfl, hD.sub (ws' := [(aC, kcI cI 4096 g8991), (h, oX11 th aw ai ab ac hi re aP ta po en be de fa a5 sp av an ak x1 aW aC ag aT aN aF), (aw, kcI cI 2179 fw), (av, kcI cI 400 g8992), (an, kcI cI 10 g3), (ak, kcI cI 10 g4)]) [0, 1, 2, 3, 4, 5] (by decide) rfl, hS, lv_sub (l' := [(3, .int y8990), (2, .int r6023), (1, .int y6015), (0, .ref h)]) hl [0, 1, 2, 3] rfl⟩
              · skip
                have k9045 : Rg r9040 0 0 := rg_q1 (eqI c9043) k9041 (rg_lit (n := 0) (by decide)) (by decide)
                refine lv_aload_n hx hb dX11_leastCost_93 rfl (lv_at hl 3 rfl) ?_
                refine va_get (D := D) (ci := 10) (v := .ref aC) (C := RX11) (T := TX11) (N := 26) hx hb hts iG_X11 hown hK hP 1 rfl rfl 21 (by decide) (hts _ w5_15) (fun _ h9 => h9) rfl dX11_leastCost_94 ?_
                refine lv_iload_n hx hb dX11_leastCost_97 rfl (lv_at hl 2 rfl) ?_
                refine lv_aload_n hx hb dX11_leastCost_98 rfl (lv_at hl 3 rfl) ?_
                refine va_get (D := D) (ci := 10) (v := .ref aC) (C := RX11) (T := TX11) (N := 26) hx hb hts iG_X11 hown hK hP 1 rfl rfl 21 (by decide) (hts _ w5_15) (fun _ h9 => h9) rfl dX11_leastCost_99 ?_
                refine lv_iload_n hx hb dX11_leastCost_102 rfl (lv_at hl 2 rfl) ?_
                refine va_iald hx hb hK hP 0 0 rfl rfl (rg_in k6022 (by decide)) dX11_leastCost_103 ?_
                refine lv_topi (fun x9046 ex9046 => ?_)
                refine lv_aload_n hx hb dX11_leastCost_104 rfl (lv_at hl 3 rfl) ?_
                refine lv_aload_n hx hb dX11_leastCost_105 rfl (lv_at hl 3 rfl) ?_
                refine va_get (D := D) (ci := 10) (v := .ref an) (C := RX11) (T := TX11) (N := 26) hx hb hts iG_X11 hown hK hP 1 rfl rfl 17 (by decide) (hts _ w5_12) (fun _ h9 => h9) rfl dX11_leastCost_106 ?_
                refine lv_iload_n hx hb dX11_leastCost_109 rfl (lv_at hl 1 rfl) ?_
                refine va_iald hx hb hK hP 4 0 rfl rfl (rg_in k9002 (by decide)) dX11_leastCost_110 ?_
                refine lv_topi (fun x9047 ex9047 => ?_)
                have k9048 : Rg x9047 0 9 := wN_rd k6 ex9047
                refine lv_iload_n hx hb dX11_leastCost_111 rfl (lv_at hl 0 rfl) ?_
                refine kcalli (wc := [(h, oX11 th aw ai ab ac hi re aP ta po en be de fa a5 sp av an ak x1 aW aC ag aT aN aF), (aw, kcI cI 2179 fw), (av, kcI cI 400 g8992)]) (wr := [(aC, kcI cI 4096 g8991), (an, kcI cI 10 g3), (ak, kcI cI 10 g4)]) hP hD hS hA [1, 2, 3] [0, 4, 5] rfl rfl (by decide) (by decide) (by decide) (fun hPc hDc hFc => va_runV (As := [.int x9047, .int y8990]) (rest := [.int x9046, .int y6015, .ref aC]) ⟨hx, hb, hml, hown, hts⟩ (r_costOf l D cI cJ cB cC h th aw ai ab ac hi re aP ta po en be de fa a5 sp av an ak x1 aW aC ag aT aN aF fw g8992 x9047 y8990 H.size k9048 k8999 H_fw_W H_fw_L) (cwV 2 hts gX11_leastCost_X11_costOf rfl rfl rfl ⟨rfl, hdX11_costOf⟩ ⟨Nat.le_of_ble_eq_true rfl, Nat.le_of_ble_eq_true rfl⟩) ⟨kBlind, va_recv hK hPc (ci := 10) (q0 := 0) rfl rfl, fun U hU hW => ⟨rfl, by rw [hU], hN.warm hW, hE.pass hS hFc hW hU, by rw [hU]; exact hPc, va_K.moved hW.alike hK, hDc⟩⟩ rfl rfl hl.1 rfl (lv_room (Nat.le_of_ble_eq_true rfl)) dX11_leastCost_112 ⟨Nat.le_of_ble_eq_true rfl, Nat.le_of_ble_eq_true rfl⟩) (fun r9049 u H locs hw hP hD hS => ?_)
                obtain ⟨g9050, rfl⟩ : ∃ z, z = u := ⟨_, rfl⟩
                have hP : va_P D vwCl [(aC, kcI cI 4096 g8991), (an, kcI cI 10 g3), (ak, kcI cI 10 g4), (h, oX11 th aw ai ab ac hi re aP ta po en be de fa a5 sp av an ak x1 aW aC ag aT aN aF), (aw, kcI cI 2179 fw), (av, kcI cI 400 g9050)] H := hP
                have hD : va_D A [(aC, kcI cI 4096 g8991), (an, kcI cI 10 g3), (ak, kcI cI 10 g4), (h, oX11 th aw ai ab ac hi re aP ta po en be de fa a5 sp av an ak x1 aW aC ag aT aN aF), (aw, kcI cI 2179 fw), (av, kcI cI 400 g9050)] := hD
                have k9051 := hw
                refine lv_aload_n hx hb dX11_leastCost_115 rfl (lv_at hl 3 rfl) ?_
                refine va_get (D := D) (ci := 10) (v := .ref aC) (C := RX11) (T := TX11) (N := 26) hx hb hts iG_X11 hown hK hP 3 rfl rfl 21 (by decide) (hts _ w5_15) (fun _ h9 => h9) rfl dX11_leastCost_116 ?_
                refine lv_iload_n hx hb dX11_leastCost_119 rfl (lv_at hl 2 rfl) ?_
                refine lv_iconst (v := 1) hx hb dX11_leastCost_120 (by decide) ?_
                refine lv_iload_n hx hb dX11_leastCost_121 rfl (lv_at hl 0 rfl) ?_
                refine lv_ishl hx hb dX11_leastCost_122 ?_
                refine lv_topi (fun x9052 ex9052 => ?_)
                have k9053 : Rg x9052 1 2048 := rg_shl1 11 ex9052 k8999 (by decide)
                refine lv_ior hx hb dX11_leastCost_123 ?_
                refine lv_topi (fun x9054 ex9054 => ?_)
                have k9055 : Rg x9054 0 4095 := rg_or 12 ex9054 k6022 k9053 (by decide)
                refine va_iald hx hb hK hP 0 0 rfl rfl (rg_in k9055 (by decide)) dX11_leastCost_124 ?_
                refine lv_topi (fun x9056 ex9056 => ?_)
                refine lv_iadd hx hb dX11_leastCost_125 ?_
                refine lv_topi (fun x9057 ex9057 => ?_)
                refine va_mmin hx hb (by rw [hml]; exact hl.1.symm) hown (hts _ w34_17) (hts _ w24_21) (hts _ w8_7) (hts _ w24_22) (Nat.le_of_ble_eq_true rfl) (Nat.le_of_ble_eq_true rfl) (Nat.le_of_ble_eq_true rfl) (Nat.le_of_ble_eq_true rfl) dX11_leastCost_126 ?_
                refine lv_topi (fun x9058 ex9058 => ?_)
                refine va_iast hx hb hK hP hD hS 0 0 rfl rfl (rg_in k6022 (by decide)) dX11_leastCost_129 (fun H locs hP hD hS => ?_)
                have hP : va_P D vwCl [(aC, kcI cI 4096 (upd g8991 y6015.toNatClampNeg x9058)), (an, kcI cI 10 g3), (ak, kcI cI 10 g4), (h, oX11 th aw ai ab ac hi re aP ta po en be de fa a5 sp av an ak x1 aW aC ag aT aN aF), (aw, kcI cI 2179 fw), (av, kcI cI 400 g9050)] H := hP
                have hD : va_D A [(aC, kcI cI 4096 (upd g8991 y6015.toNatClampNeg x9058)), (an, kcI cI 10 g3), (ak, kcI cI 10 g4), (h, oX11 th aw ai ab ac hi re aP ta po en be de fa a5 sp av an ak x1 aW aC ag aT aN aF), (aw, kcI cI 2179 fw), (av, kcI cI 400 g9050)] := hD
                generalize hg9059 : (upd g8991 y6015.toNatClampNeg x9058) = g9059 at hP hD
                exact hJ130 (g9059, g9050) _ _ _ ⟨(kC_eq rfl (kC_eq rfl (kLet_eq (k8997).symm (kif_f (xF_le c8998) (kif_f (xF_le c9001) (kLet_eq (ke_ld ex9004) (kLet_eq (k9007).symm (kif_f (neI c9037) (kLet_eq (k9042).symm (kif_t (eqI c9043) (kLet_eq (ke_ld ex9046) (kLet_eq (ke_ld ex9047) (kC_eq k9051 (kLet_eq (ke_shl ex9052) (kLet_eq (ke_or ex9054) (kLet_eq (ke_ld ex9056) (kLet_eq (ke_wadd ex9057) (kLet_eq (ke_min ex9058) (kLet_eq (ke_st hg9059) rfl))))))))))))))))))), hP.sub (ws' := [(aC, kcI cI 4096 g9059), (h, oX11 th aw ai ab ac hi re aP ta po en be de fa a5 sp av an ak x1 aW aC ag aT aN aF), (aw, kcI cI 2179 fw), (av, kcI cI 400 g9050), (an, kcI cI 10 g3), (ak, kcI cI 10 g4)]) [0, 3, 4, 5, 1, 2] rfl, hD.sub (ws' := [(aC, kcI cI 4096 g9059), (h, oX11 th aw ai ab ac hi re aP ta po en be de fa a5 sp av an ak x1 aW aC ag aT aN aF), (aw, kcI cI 2179 fw), (av, kcI cI 400 g9050), (an, kcI cI 10 g3), (ak, kcI cI 10 g4)]) [0, 3, 4, 5, 1, 2] (by decide) rfl, hS, lv_sub (l' := [(3, .int y8990), (2, .int r6023), (1, .int y6015), (0, .ref h)]) hl [0, 1, 2, 3] rfl⟩
    · skip
      have k9060 : Rg r6023 1 63 := rg_l2 (nleI c7520) k5 k6024 (by decide)
      refine lv_goto (tgt := 136) hx hb dX11_leastCost_30 (by decide) ?_
      exact hJ136 (g6016, g6017) _ _ _ ⟨(kC_eq rfl (kC_eq rfl (kif_f (xF_lt c6019) (kLet_eq (k6025).symm (kif_f (xF_le c7520) rfl))))), hP.sub (ws' := [(aC, kcI cI 4096 g6016), (h, oX11 th aw ai ab ac hi re aP ta po en be de fa a5 sp av an ak x1 aW aC ag aT aN aF), (aw, kcI cI 2179 fw), (av, kcI cI 400 g6017), (an, kcI cI 10 g3), (ak, kcI cI 10 g4)]) [0, 1, 2, 3, 4, 5] rfl, hD.sub (ws' := [(aC, kcI cI 4096 g6016), (h, oX11 th aw ai ab ac hi re aP ta po en be de fa a5 sp av an ak x1 aW aC ag aT aN aF), (aw, kcI cI 2179 fw), (av, kcI cI 400 g6017), (an, kcI cI 10 g3), (ak, kcI cI 10 g4)]) [0, 1, 2, 3, 4, 5] (by decide) rfl, hS, lv_sub (l' := [(2, .int r6023), (1, .int y6015), (0, .ref h)]) hl [0, 1, 2] rfl⟩

