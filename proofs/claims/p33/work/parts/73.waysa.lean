def kwX11_looks : List Cond := .code yX11_looks cX11_looks 2 none :: kG
theorem hdX11_looks : yX11_looks.cls ≠ "java/lang/invoke/MethodHandle" ∧ yX11_looks.cls ≠ "java/lang/invoke/VarHandle" ∧ (parseMethodDescriptor yX11_looks.desc).map (fun d => d.parameters.length) = some 0 := by decide +kernel
theorem gX11_looks_X11_givable : GoodIn kG (wsV RX11 319 RX11 yX11_givable kwX11_givable) := gK w40_12 (gK w40_13 (gK w40_14 (gK w0_5 (gK w40_15 gGG))))
theorem gX11_looks_X11_men : GoodIn kG (wsV RX11 71 RX11 yX11_men kwX11_men) := gK w19_17 (gK w19_18 (gK w19_19 (gK w0_5 (gK w19_20 gGG))))
theorem gX11_looks_X11_ofMan : GoodIn kG (wsV RX11 153 RX11 yX11_ofMan kwX11_ofMan) := gK w21_5 (gK w21_6 (gK w21_7 (gK w0_5 (gK w21_8 gGG))))
theorem dX11_looks_0 : decode cX11_looks 0 = .ok (.aload_n 0, 1) := by decide +kernel
theorem dX11_looks_1 : decode cX11_looks 1 = .ok (.iconst 0, 1) := by decide +kernel
theorem dX11_looks_2 : decode cX11_looks 2 = .ok (.putfield 316, 3) := by decide +kernel
theorem dX11_looks_5 : decode cX11_looks 5 = .ok (.iconst 0, 1) := by decide +kernel
theorem dX11_looks_6 : decode cX11_looks 6 = .ok (.istore_n 1, 1) := by decide +kernel
theorem dX11_looks_7 : decode cX11_looks 7 = .ok (.iload_n 1, 1) := by decide +kernel
theorem dX11_looks_8 : decode cX11_looks 8 = .ok (.aload_n 0, 1) := by decide +kernel
theorem dX11_looks_9 : decode cX11_looks 9 = .ok (.invokevirtual 71, 3) := by decide +kernel
theorem dX11_looks_12 : decode cX11_looks 12 = .ok (.if_icmp .ge 55, 3) := by decide +kernel
theorem dX11_looks_15 : decode cX11_looks 15 = .ok (.aload_n 0, 1) := by decide +kernel
theorem dX11_looks_16 : decode cX11_looks 16 = .ok (.iload_n 1, 1) := by decide +kernel
theorem dX11_looks_17 : decode cX11_looks 17 = .ok (.iconst 4, 1) := by decide +kernel
theorem dX11_looks_18 : decode cX11_looks 18 = .ok (.invokevirtual 153, 3) := by decide +kernel
theorem dX11_looks_21 : decode cX11_looks 21 = .ok (.ifCond .lt 6, 3) := by decide +kernel
theorem dX11_looks_24 : decode cX11_looks 24 = .ok (.goto 37, 3) := by decide +kernel
theorem dX11_looks_27 : decode cX11_looks 27 = .ok (.aload_n 0, 1) := by decide +kernel
theorem dX11_looks_28 : decode cX11_looks 28 = .ok (.getfield 39, 3) := by decide +kernel
theorem dX11_looks_31 : decode cX11_looks 31 = .ok (.aload_n 0, 1) := by decide +kernel
theorem dX11_looks_32 : decode cX11_looks 32 = .ok (.getfield 316, 3) := by decide +kernel
theorem dX11_looks_35 : decode cX11_looks 35 = .ok (.iload_n 1, 1) := by decide +kernel
theorem dX11_looks_36 : decode cX11_looks 36 = .ok (.iastore, 1) := by decide +kernel
theorem dX11_looks_37 : decode cX11_looks 37 = .ok (.aload_n 0, 1) := by decide +kernel
theorem dX11_looks_38 : decode cX11_looks 38 = .ok (.getfield 42, 3) := by decide +kernel
theorem dX11_looks_41 : decode cX11_looks 41 = .ok (.aload_n 0, 1) := by decide +kernel
theorem dX11_looks_42 : decode cX11_looks 42 = .ok (.getfield 316, 3) := by decide +kernel
theorem dX11_looks_45 : decode cX11_looks 45 = .ok (.aload_n 0, 1) := by decide +kernel
theorem dX11_looks_46 : decode cX11_looks 46 = .ok (.iload_n 1, 1) := by decide +kernel
theorem dX11_looks_47 : decode cX11_looks 47 = .ok (.invokevirtual 319, 3) := by decide +kernel
theorem dX11_looks_50 : decode cX11_looks 50 = .ok (.iastore, 1) := by decide +kernel
theorem dX11_looks_51 : decode cX11_looks 51 = .ok (.aload_n 0, 1) := by decide +kernel
theorem dX11_looks_52 : decode cX11_looks 52 = .ok (.dup, 1) := by decide +kernel
theorem dX11_looks_53 : decode cX11_looks 53 = .ok (.getfield 316, 3) := by decide +kernel
theorem dX11_looks_56 : decode cX11_looks 56 = .ok (.iconst 1, 1) := by decide +kernel
theorem dX11_looks_57 : decode cX11_looks 57 = .ok (.iadd, 1) := by decide +kernel
theorem dX11_looks_58 : decode cX11_looks 58 = .ok (.putfield 316, 3) := by decide +kernel
theorem dX11_looks_61 : decode cX11_looks 61 = .ok (.iinc 1 1, 3) := by decide +kernel
theorem dX11_looks_64 : decode cX11_looks 64 = .ok (.goto (-57), 3) := by decide +kernel
theorem dX11_looks_67 : decode cX11_looks 67 = .ok (.return_, 1) := by decide +kernel
set_option maxHeartbeats 4000000 in
set_option maxRecDepth 100000 in
/-- reference: looks -/
theorem r_looks (l : Launch) (D : va_G) (cI cJ cB cC : ClassId) (h : Nat) (th : Int32) (aw : Nat) (ai : Nat) (ab : Nat) (ac : Nat) (hi : Int32) (re : Int32) (aP : Nat) (ta : Int32) (po : Int32) (en : Int32) (be : Int32) (de : Int32) (fa : Int32) (a5 : Nat) (sp : Int32) (av : Nat) (an : Nat) (ak : Nat) (ne : Int32) (aW : Nat) (aC : Nat) (ag : Nat) (aT : Nat) (aN : Nat) (aF : Nat) (fw : Nat → Int32) (fv : Nat → Int32) (fn : Nat → Int32) (fk : Nat → Int32) (sz : Nat) (H_fw_W : wW fw) (H_fw_L : wL fw) (H_fn_N : wN fn) : Met l yX11_looks kwX11_looks ({ frames := 7, cells := 0, slots := 0, locals := 167 } : Room) (kPre D (kT cI cJ cB cC) sz [(h, oX11 th aw ai ab ac hi re aP ta po en be de fa a5 sp av an ak ne aW aC ag aT aN aF), (aw, .inl (cI, 2179, .inl fw)), (av, .inl (cI, 400, .inl fv)), (an, .inl (cI, 10, .inl fn)), (ak, .inl (cI, 10, .inl fk))] [.ref h]) (va_Qv (fun (uu : Int32 × (Nat → Int32) × (Nat → Int32) × (Nat → Int32)) => match uu with | (n0_, f1_, f2_, f3_) => Rg n0_ 0 10 ∧ wN f2_) (fun (uu : Int32 × (Nat → Int32) × (Nat → Int32) × (Nat → Int32)) (t : State) => match uu with | (n0_, f1_, f2_, f3_) => kB D (kT cI cJ cB cC) (va_A [(h, oX11 th aw ai ab ac hi re aP ta po en be de fa a5 sp av an ak ne aW aC ag aT aN aF), (aw, .inl (cI, 2179, .inl fw)), (av, .inl (cI, 400, .inl fv)), (an, .inl (cI, 10, .inl fn)), (ak, .inl (cI, 10, .inl fk))] sz) [(h, oX11 th aw ai ab ac hi re aP ta po en be de fa a5 sp av an ak n0_ aW aC ag aT aN aF), (aw, .inl (cI, 2179, .inl fw)), (av, .inl (cI, 400, .inl f1_)), (an, .inl (cI, 10, .inl f2_)), (ak, .inl (cI, 10, .inl f3_))] t) (va_A [(h, oX11 th aw ai ab ac hi re aP ta po en be de fa a5 sp av an ak ne aW aC ag aT aN aF), (aw, .inl (cI, 2179, .inl fw)), (av, .inl (cI, 400, .inl fv)), (an, .inl (cI, 10, .inl fn)), (ak, .inl (cI, 10, .inl fk))] sz)) 0 0 (va_A [(h, oX11 th aw ai ab ac hi re aP ta po en be de fa a5 sp av an ak ne aW aC ag aT aN aF), (aw, .inl (cI, 2179, .inl fw)), (av, .inl (cI, 400, .inl fv)), (an, .inl (cI, 10, .inl fn)), (ak, .inl (cI, 10, .inl fk))] sz) := by
  refine Met.ofW (cc := cX11_looks) (maxL := 2) (ret := none) (by decide) rfl ?_
  intro p e s m args below meth c s₁ B hml hv
  obtain ⟨rfl, hsz, hN, hE, hP, hK, hD0⟩ := hv
  have hx := B.exec
  have hb := B.bytes
  have hr := B.returns
  have hts := fun (w : Cond) (h : w ∈ kG) => atoms_spec (ws := kwX11_looks) B.pre w (List.mem_cons_of_mem _ h)
  have hown : s.vm.findClass RX11 = some m.cls := findClass_of_methodNamed B.named
  subst hsz
  have hD := hD0.self (sz := s.heap.size)
  generalize hAe : va_A [(h, oX11 th aw ai ab ac hi re aP ta po en be de fa a5 sp av an ak ne aW aC ag aT aN aF), (aw, .inl (cI, 2179, .inl fw)), (av, .inl (cI, 400, .inl fv)), (an, .inl (cI, 10, .inl fn)), (ak, .inl (cI, 10, .inl fk))] s.heap.size = A at hD hE ⊢
  have hA : ∀ q : Nat, s.heap.size ≤ q → A q := fun q h => by rw [← hAe]; exact Or.inr h
  have hl := lv_entry ([.ref h]) (n := 2) (Nat.le_of_ble_eq_true rfl)
  rw [lg_entry_eq]
  generalize (lg_sl ([.ref h]) ++ List.replicate (2 - (lg_sl ([.ref h])).length) Slot.unset).toArray = ls at hl ⊢
  have hl : lv_has ls 2 [(0, .ref h)] := hl
  obtain ⟨H, hH0⟩ : ∃ H, H = s.heap := ⟨_, rfl⟩
  have hS : va_S A s.heap H [] := by rw [hH0]; exact va_S.rf
  have hP : va_P D vwCl [(h, oX11 th aw ai ab ac hi re aP ta po en be de fa a5 sp av an ak ne aW aC ag aT aN aF), (aw, .inl (cI, 2179, .inl fw)), (av, .inl (cI, 400, .inl fv)), (an, .inl (cI, 10, .inl fn)), (ak, .inl (cI, 10, .inl fk))] H := by rw [hH0]; exact hP
  refine kHeap hH0 ?_
  clear hH0
  refine lv_aload_n hx hb dX11_looks_0 rfl (lv_at hl 0 rfl) ?_
  refine lv_iconst (v := 0) hx hb dX11_looks_1 (by decide) ?_
  refine va_put (D := D) (ci := 10) (v := .int 0) (ty := .int) (C := RX11) (T := TX11) (N := 26) hx hb hts iG_X11 tyX11 tyX11_ok nmX11 hown hK hP hD hS 0 rfl rfl 19 (by decide) (hts _ w40_7) (fun _ h9 => h9) rfl (by decide +kernel) rfl rfl (Nat.le_of_ble_eq_true rfl) dX11_looks_2 (fun H locs hP hD hS => ?_)
  have hP : va_P D vwCl [(h, oX11 th aw ai ab ac hi re aP ta po en be de fa a5 sp av an ak 0 aW aC ag aT aN aF), (aw, .inl (cI, 2179, .inl fw)), (av, .inl (cI, 400, .inl fv)), (an, .inl (cI, 10, .inl fn)), (ak, .inl (cI, 10, .inl fk))] H := hP
  have hD : va_D A [(h, oX11 th aw ai ab ac hi re aP ta po en be de fa a5 sp av an ak 0 aW aC ag aT aN aF), (aw, .inl (cI, 2179, .inl fw)), (av, .inl (cI, 400, .inl fv)), (an, .inl (cI, 10, .inl fn)), (ak, .inl (cI, 10, .inl fk))] := hD
  refine lv_iconst (v := 0) hx hb dX11_looks_5 (by decide) ?_
  refine lv_istore_n (lv' := [(1, .int 0), (0, .ref h)]) hx hb dX11_looks_6 rfl hl (by decide) rfl (fun ls hl => ?_)
  refine k_loop (hd := 7) (fun (u : Int32 × Int32 × (Nat → Int32) × (Nat → Int32) × (Nat → Int32)) => match u with | (y478, y479, g480, g481, g482) => (10 - (y478).toInt).toNat) (fun (u : Int32 × Int32 × (Nat → Int32) × (Nat → Int32) × (Nat → Int32)) (H : Heap) (locs : List Loc) (ls : Array Slot) => match u with | (y478, y479, g480, g481, g482) => (0 ≤ (y479 : Int32).toInt ∧ (y479 : Int32).toInt ≤ (y478 : Int32).toInt) ∧ Rg y478 0 10 ∧ Rg y479 0 10 ∧ wN g481 ∧ va_P D vwCl [(h, oX11 th aw ai ab ac hi re aP ta po en be de fa a5 sp av an ak y479 aW aC ag aT aN aF), (aw, .inl (cI, 2179, .inl fw)), (av, .inl (cI, 400, .inl g480)), (an, .inl (cI, 10, .inl g481)), (ak, .inl (cI, 10, .inl g482))] H ∧ va_D A [(h, oX11 th aw ai ab ac hi re aP ta po en be de fa a5 sp av an ak y479 aW aC ag aT aN aF), (aw, .inl (cI, 2179, .inl fw)), (av, .inl (cI, 400, .inl g480)), (an, .inl (cI, 10, .inl g481)), (ak, .inl (cI, 10, .inl g482))] ∧ va_S A s.heap H locs ∧ lv_has ls 2 [(1, .int y478), (0, .ref h)]) ((0 : Int32), (0 : Int32), fv, fn, fk) ⟨⟨by decide, Int.le_refl _⟩, (rg_w (rg_lit (n := 0) (by decide)) (by decide)), (rg_w (rg_lit (n := 0) (by decide)) (by decide)), H_fn_N, hP.sub (ws' := [(h, oX11 th aw ai ab ac hi re aP ta po en be de fa a5 sp av an ak 0 aW aC ag aT aN aF), (aw, .inl (cI, 2179, .inl fw)), (av, .inl (cI, 400, .inl fv)), (an, .inl (cI, 10, .inl fn)), (ak, .inl (cI, 10, .inl fk))]) [0, 1, 2, 3, 4] rfl, hD.sub (ws' := [(h, oX11 th aw ai ab ac hi re aP ta po en be de fa a5 sp av an ak 0 aW aC ag aT aN aF), (aw, .inl (cI, 2179, .inl fw)), (av, .inl (cI, 400, .inl fv)), (an, .inl (cI, 10, .inl fn)), (ak, .inl (cI, 10, .inl fk))]) [0, 1, 2, 3, 4] (by decide) rfl, hS, lv_sub (l' := [(1, .int 0), (0, .ref h)]) hl [0, 1] rfl⟩ (fun u H locs ls hI ih483 => ?_)
  clear hP hD hS hl
  obtain ⟨y478, y479, g480, g481, g482⟩ := u
  obtain ⟨hX7_0, hy478, hy479, hg481_0, hP, hD, hS, hl⟩ := hI
  have hP : va_P D vwCl [(h, oX11 th aw ai ab ac hi re aP ta po en be de fa a5 sp av an ak y479 aW aC ag aT aN aF), (aw, .inl (cI, 2179, .inl fw)), (av, .inl (cI, 400, .inl g480)), (an, .inl (cI, 10, .inl g481)), (ak, .inl (cI, 10, .inl g482))] H := hP
  have hD : va_D A [(h, oX11 th aw ai ab ac hi re aP ta po en be de fa a5 sp av an ak y479 aW aC ag aT aN aF), (aw, .inl (cI, 2179, .inl fw)), (av, .inl (cI, 400, .inl g480)), (an, .inl (cI, 10, .inl g481)), (ak, .inl (cI, 10, .inl g482))] := hD
  have hl : lv_has ls 2 [(1, .int y478), (0, .ref h)] := hl
  refine lv_iload_n hx hb dX11_looks_7 rfl (lv_at hl 0 rfl) ?_
  refine lv_aload_n hx hb dX11_looks_8 rfl (lv_at hl 1 rfl) ?_
  refine kpurei (wc := [(h, oX11 th aw ai ab ac hi re aP ta po en be de fa a5 sp av an ak y479 aW aC ag aT aN aF), (aw, .inl (cI, 2179, .inl fw))]) hP hD hS hA [0, 1] rfl (by decide) (fun hPc hDc hFc => va_runV (As := []) (rest := [.int y478]) ⟨hx, hb, hml, hown, hts⟩ (r_men l D cI cJ cB cC h th aw ai ab ac hi re aP ta po en be de fa a5 sp av an ak y479 aW aC ag aT aN aF fw H.size H_fw_W) (cwV 0 hts gX11_looks_X11_men rfl rfl rfl ⟨rfl, hdX11_men⟩ ⟨Nat.le_of_ble_eq_true rfl, Nat.le_of_ble_eq_true rfl⟩) ⟨kBlind, va_recv hK hPc (ci := 10) (q0 := 0) rfl rfl, fun U hU hW => ⟨rfl, by rw [hU], hN.warm hW, hE.pass hS hFc hW hU, by rw [hU]; exact hPc, va_K.moved hW.alike hK, hDc⟩⟩ rfl rfl hl.1 rfl (lv_room (Nat.le_of_ble_eq_true rfl)) dX11_looks_9 ⟨Nat.le_of_ble_eq_true rfl, Nat.le_of_ble_eq_true rfl⟩) (fun r484 u H locs hw hP hS => ?_)
  obtain ⟨k485, k486⟩ := hw
  refine lv_icmp_ge (tgt := 67) hx hb dX11_looks_12 (by decide) (fun c487 => ?_) (fun c487 => ?_)
  · skip
    have hP9 := hP.sub (ws' := [(h, oX11 th aw ai ab ac hi re aP ta po en be de fa a5 sp av an ak y479 aW aC ag aT aN aF), (aw, .inl (cI, 2179, .inl fw)), (av, .inl (cI, 400, .inl g480)), (an, .inl (cI, 10, .inl g481)), (ak, .inl (cI, 10, .inl g482))]) [0, 1, 2, 3, 4] rfl
    have hD9 := hD.sub (ws' := [(h, oX11 th aw ai ab ac hi re aP ta po en be de fa a5 sp av an ak y479 aW aC ag aT aN aF), (aw, .inl (cI, 2179, .inl fw)), (av, .inl (cI, 400, .inl g480)), (an, .inl (cI, 10, .inl g481)), (ak, .inl (cI, 10, .inl g482))]) [0, 1, 2, 3, 4] (by decide) rfl
    exact W.vret hx hb hr (fun t ht hW => ⟨⟨(y479, g480, g481, g482), rfl, ⟨hy479, hg481_0⟩, by rw [ht]; exact hP9, va_K.moved hW.alike hK, hD9⟩, hS.F ht⟩) hS.2.2 dX11_looks_67
  · skip
    have k488 : Rg y478 0 9 := rg_l1 (nleI c487) hy478 k486 (by decide)
    have k489 : Rg r484 1 10 := rg_l2 (nleI c487) hy478 k486 (by decide)
    have k490 : Rg y479 0 9 := (by have q1 := hX7_0; have q2 := k488; unfold Rg at *; exact ⟨by omega, by omega⟩)
    refine lv_aload_n hx hb dX11_looks_15 rfl (lv_at hl 1 rfl) ?_
    refine lv_iload_n hx hb dX11_looks_16 rfl (lv_at hl 0 rfl) ?_
    refine lv_iconst (v := 4) hx hb dX11_looks_17 (by decide) ?_
    refine kpurei (wc := [(h, oX11 th aw ai ab ac hi re aP ta po en be de fa a5 sp av an ak y479 aW aC ag aT aN aF), (aw, .inl (cI, 2179, .inl fw))]) hP hD hS hA [0, 1] rfl (by decide) (fun hPc hDc hFc => va_runV (As := [.int y478, .int 4]) (rest := []) ⟨hx, hb, hml, hown, hts⟩ (r_ofMan4 l D cI cJ cB cC h th aw ai ab ac hi re aP ta po en be de fa a5 sp av an ak y479 aW aC ag aT aN aF fw y478 H.size k488 H_fw_W) (cwV 2 hts gX11_looks_X11_ofMan rfl rfl rfl ⟨rfl, hdX11_ofMan⟩ ⟨Nat.le_of_ble_eq_true rfl, Nat.le_of_ble_eq_true rfl⟩) ⟨kBlind, va_recv hK hPc (ci := 10) (q0 := 0) rfl rfl, fun U hU hW => ⟨rfl, by rw [hU], hN.warm hW, hE.pass hS hFc hW hU, by rw [hU]; exact hPc, va_K.moved hW.alike hK, hDc⟩⟩ rfl rfl hl.1 rfl (lv_room (Nat.le_of_ble_eq_true rfl)) dX11_looks_18 ⟨Nat.le_of_ble_eq_true rfl, Nat.le_of_ble_eq_true rfl⟩) (fun r491 u H locs hw hP hS => ?_)
    obtain ⟨k492, k493⟩ := hw
    refine lv_if_lt (tgt := 27) hx hb dX11_looks_21 (by decide) (fun c505 => ?_) (fun c505 => ?_)
    · skip
      have k506 : Rg r491 (-1) (-1) := rg_l1 (ltI c505) k493 (rg_lit (n := 0) (by decide)) (by decide)
      refine lv_aload_n hx hb dX11_looks_27 rfl (lv_at hl 1 rfl) ?_
      refine va_get (D := D) (ci := 10) (v := .ref an) (C := RX11) (T := TX11) (N := 26) hx hb hts iG_X11 hown hK hP 0 rfl rfl 17 (by decide) (hts _ w5_12) (fun _ h9 => h9) rfl dX11_looks_28 ?_
      refine lv_aload_n hx hb dX11_looks_31 rfl (lv_at hl 1 rfl) ?_
      refine va_get (D := D) (ci := 10) (v := .int y479) (C := RX11) (T := TX11) (N := 26) hx hb hts iG_X11 hown hK hP 0 rfl rfl 19 (by decide) (hts _ w40_7) (fun _ h9 => h9) rfl dX11_looks_32 ?_
      refine lv_iload_n hx hb dX11_looks_35 rfl (lv_at hl 0 rfl) ?_
      refine va_iast hx hb hK hP hD hS 3 0 rfl rfl (rg_in k490 (by decide)) dX11_looks_36 (fun H locs hP hD hS => ?_)
      have hP : va_P D vwCl [(h, oX11 th aw ai ab ac hi re aP ta po en be de fa a5 sp av an ak y479 aW aC ag aT aN aF), (aw, .inl (cI, 2179, .inl fw)), (av, .inl (cI, 400, .inl g480)), (an, .inl (cI, 10, .inl (upd g481 y479.toNatClampNeg y478))), (ak, .inl (cI, 10, .inl g482))] H := hP
      have hD : va_D A [(h, oX11 th aw ai ab ac hi re aP ta po en be de fa a5 sp av an ak y479 aW aC ag aT aN aF), (aw, .inl (cI, 2179, .inl fw)), (av, .inl (cI, 400, .inl g480)), (an, .inl (cI, 10, .inl (upd g481 y479.toNatClampNeg y478))), (ak, .inl (cI, 10, .inl g482))] := hD
      have k508 : wN (upd g481 y479.toNatClampNeg y478) := wN_upd hg481_0 k488
      generalize hge : (upd g481 y479.toNatClampNeg y478) = g507 at hP hD k508
      clear hge
      refine lv_aload_n hx hb dX11_looks_37 rfl (lv_at hl 1 rfl) ?_
      refine va_get (D := D) (ci := 10) (v := .ref ak) (C := RX11) (T := TX11) (N := 26) hx hb hts iG_X11 hown hK hP 0 rfl rfl 18 (by decide) (hts _ w5_13) (fun _ h9 => h9) rfl dX11_looks_38 ?_
      refine lv_aload_n hx hb dX11_looks_41 rfl (lv_at hl 1 rfl) ?_
      refine va_get (D := D) (ci := 10) (v := .int y479) (C := RX11) (T := TX11) (N := 26) hx hb hts iG_X11 hown hK hP 0 rfl rfl 19 (by decide) (hts _ w40_7) (fun _ h9 => h9) rfl dX11_looks_42 ?_
      refine lv_aload_n hx hb dX11_looks_45 rfl (lv_at hl 1 rfl) ?_
      refine lv_iload_n hx hb dX11_looks_46 rfl (lv_at hl 0 rfl) ?_
      refine kcalli (wc := [(h, oX11 th aw ai ab ac hi re aP ta po en be de fa a5 sp av an ak y479 aW aC ag aT aN aF), (aw, .inl (cI, 2179, .inl fw)), (av, .inl (cI, 400, .inl g480))]) (wr := [(an, .inl (cI, 10, .inl g507)), (ak, .inl (cI, 10, .inl g482))]) hP hD hS hA [0, 1, 2] [3, 4] rfl rfl (by decide) (by decide) (by decide) (fun hPc hDc hFc => va_runV (As := [.int y478]) (rest := [.int y479, .ref ak]) ⟨hx, hb, hml, hown, hts⟩ (r_givable l D cI cJ cB cC h th aw ai ab ac hi re aP ta po en be de fa a5 sp av an ak y479 aW aC ag aT aN aF fw g480 y478 H.size k488 H_fw_W H_fw_L) (cwV 1 hts gX11_looks_X11_givable rfl rfl rfl ⟨rfl, hdX11_givable⟩ ⟨Nat.le_of_ble_eq_true rfl, Nat.le_of_ble_eq_true rfl⟩) ⟨kBlind, va_recv hK hPc (ci := 10) (q0 := 0) rfl rfl, fun U hU hW => ⟨rfl, by rw [hU], hN.warm hW, hE.pass hS hFc hW hU, by rw [hU]; exact hPc, va_K.moved hW.alike hK, hDc⟩⟩ rfl rfl hl.1 rfl (lv_room (Nat.le_of_ble_eq_true rfl)) dX11_looks_47 ⟨Nat.le_of_ble_eq_true rfl, Nat.le_of_ble_eq_true rfl⟩) (fun r509 u H locs hw hP hD hS => ?_)
      obtain ⟨g510, rfl⟩ : ∃ z, z = u := ⟨_, rfl⟩
      have hP : va_P D vwCl [(an, .inl (cI, 10, .inl g507)), (ak, .inl (cI, 10, .inl g482)), (h, oX11 th aw ai ab ac hi re aP ta po en be de fa a5 sp av an ak y479 aW aC ag aT aN aF), (aw, .inl (cI, 2179, .inl fw)), (av, .inl (cI, 400, .inl g510))] H := hP
      have hD : va_D A [(an, .inl (cI, 10, .inl g507)), (ak, .inl (cI, 10, .inl g482)), (h, oX11 th aw ai ab ac hi re aP ta po en be de fa a5 sp av an ak y479 aW aC ag aT aN aF), (aw, .inl (cI, 2179, .inl fw)), (av, .inl (cI, 400, .inl g510))] := hD
      have k511 := hw
      refine va_iast hx hb hK hP hD hS 1 0 rfl rfl (rg_in k490 (by decide)) dX11_looks_50 (fun H locs hP hD hS => ?_)
      have hP : va_P D vwCl [(an, .inl (cI, 10, .inl g507)), (ak, .inl (cI, 10, .inl (upd g482 y479.toNatClampNeg r509))), (h, oX11 th aw ai ab ac hi re aP ta po en be de fa a5 sp av an ak y479 aW aC ag aT aN aF), (aw, .inl (cI, 2179, .inl fw)), (av, .inl (cI, 400, .inl g510))] H := hP
      have hD : va_D A [(an, .inl (cI, 10, .inl g507)), (ak, .inl (cI, 10, .inl (upd g482 y479.toNatClampNeg r509))), (h, oX11 th aw ai ab ac hi re aP ta po en be de fa a5 sp av an ak y479 aW aC ag aT aN aF), (aw, .inl (cI, 2179, .inl fw)), (av, .inl (cI, 400, .inl g510))] := hD
      generalize hge : (upd g482 y479.toNatClampNeg r509) = g512 at hP hD
      clear hge
      refine lv_aload_n hx hb dX11_looks_51 rfl (lv_at hl 1 rfl) ?_
      refine lv_dup hx hb dX11_looks_52 rfl ?_
      refine va_get (D := D) (ci := 10) (v := .int y479) (C := RX11) (T := TX11) (N := 26) hx hb hts iG_X11 hown hK hP 2 rfl rfl 19 (by decide) (hts _ w40_7) (fun _ h9 => h9) rfl dX11_looks_53 ?_
      refine lv_iconst (v := 1) hx hb dX11_looks_56 (by decide) ?_
      refine lv_iadd hx hb dX11_looks_57 ?_
      refine lv_topi (fun x513 ex513 => ?_)
      have tx513 : x513.toInt = y479.toInt + 1 := ti_add ex513 k490 (rg_lit (n := 1) (by decide)) (by decide) rfl (by decide)
      have k514 : Rg x513 1 10 := rg_add ex513 k490 (rg_lit (n := 1) (by decide)) (by decide)
      refine va_put (D := D) (ci := 10) (v := .int x513) (ty := .int) (C := RX11) (T := TX11) (N := 26) hx hb hts iG_X11 tyX11 tyX11_ok nmX11 hown hK hP hD hS 2 rfl rfl 19 (by decide) (hts _ w40_7) (fun _ h9 => h9) rfl (by decide +kernel) rfl rfl (Nat.le_of_ble_eq_true rfl) dX11_looks_58 (fun H locs hP hD hS => ?_)
      have hP : va_P D vwCl [(an, .inl (cI, 10, .inl g507)), (ak, .inl (cI, 10, .inl g512)), (h, oX11 th aw ai ab ac hi re aP ta po en be de fa a5 sp av an ak x513 aW aC ag aT aN aF), (aw, .inl (cI, 2179, .inl fw)), (av, .inl (cI, 400, .inl g510))] H := hP
      have hD : va_D A [(an, .inl (cI, 10, .inl g507)), (ak, .inl (cI, 10, .inl g512)), (h, oX11 th aw ai ab ac hi re aP ta po en be de fa a5 sp av an ak x513 aW aC ag aT aN aF), (aw, .inl (cI, 2179, .inl fw)), (av, .inl (cI, 400, .inl g510))] := hD
      obtain ⟨x515, ex515⟩ : ∃ y : Int32, y = y478 + 1 := ⟨_, rfl⟩
      refine lv_iinc (v := x515) (lv' := [(1, .int x515), (0, .ref h)]) hx hb dX11_looks_61 hl (k := 0) rfl (by rw [ex515]; rfl) (by decide) rfl (fun ls hl => ?_)
      have k516 : Rg x515 1 10 := rg_add ex515 k488 (rg_lit (n := 1) (by decide)) (by decide)
      refine lv_goto (tgt := 7) hx hb dX11_looks_64 (by decide) ?_
      exact ih483 (x515, x513, g510, g507, g512) _ _ _ (by show (10 - (x515).toInt).toNat < (10 - (y478).toInt).toNat; exact mu_up ex515 k488 k516 (by decide)) ⟨(by have q1 := hX7_0; have q2 := ti_add (Y := 1) ex515 k488 (rg_lit (n := 1) (by decide)) (by decide) rfl (by decide); have q3 := tx513; exact ⟨by omega, by omega⟩), (rg_w k516 (by decide)), (rg_w k514 (by decide)), k508, hP.sub (ws' := [(h, oX11 th aw ai ab ac hi re aP ta po en be de fa a5 sp av an ak x513 aW aC ag aT aN aF), (aw, .inl (cI, 2179, .inl fw)), (av, .inl (cI, 400, .inl g510)), (an, .inl (cI, 10, .inl g507)), (ak, .inl (cI, 10, .inl g512))]) [2, 3, 4, 0, 1] rfl, hD.sub (ws' := [(h, oX11 th aw ai ab ac hi re aP ta po en be de fa a5 sp av an ak x513 aW aC ag aT aN aF), (aw, .inl (cI, 2179, .inl fw)), (av, .inl (cI, 400, .inl g510)), (an, .inl (cI, 10, .inl g507)), (ak, .inl (cI, 10, .inl g512))]) [2, 3, 4, 0, 1] (by decide) rfl, hS, lv_sub (l' := [(1, .int x515), (0, .ref h)]) hl [0, 1] rfl⟩
    · skip
      have k517 : Rg r491 0 11 := rg_e2 (nltI c505) (rg_lit (n := 0) (by decide)) k493 (by decide)
      refine lv_goto (tgt := 61) hx hb dX11_looks_24 (by decide) ?_
      obtain ⟨x518, ex518⟩ : ∃ y : Int32, y = y478 + 1 := ⟨_, rfl⟩
      refine lv_iinc (v := x518) (lv' := [(1, .int x518), (0, .ref h)]) hx hb dX11_looks_61 hl (k := 0) rfl (by rw [ex518]; rfl) (by decide) rfl (fun ls hl => ?_)
      have k519 : Rg x518 1 10 := rg_add ex518 k488 (rg_lit (n := 1) (by decide)) (by decide)
      refine lv_goto (tgt := 7) hx hb dX11_looks_64 (by decide) ?_
      exact ih483 (x518, y479, g480, g481, g482) _ _ _ (by show (10 - (x518).toInt).toNat < (10 - (y478).toInt).toNat; exact mu_up ex518 k488 k519 (by decide)) ⟨(by have q1 := hX7_0; have q2 := ti_add (Y := 1) ex518 k488 (rg_lit (n := 1) (by decide)) (by decide) rfl (by decide); exact ⟨by omega, by omega⟩), (rg_w k519 (by decide)), (rg_w k490 (by decide)), hg481_0, hP.sub (ws' := [(h, oX11 th aw ai ab ac hi re aP ta po en be de fa a5 sp av an ak y479 aW aC ag aT aN aF), (aw, .inl (cI, 2179, .inl fw)), (av, .inl (cI, 400, .inl g480)), (an, .inl (cI, 10, .inl g481)), (ak, .inl (cI, 10, .inl g482))]) [0, 1, 2, 3, 4] rfl, hD.sub (ws' := [(h, oX11 th aw ai ab ac hi re aP ta po en be de fa a5 sp av an ak y479 aW aC ag aT aN aF), (aw, .inl (cI, 2179, .inl fw)), (av, .inl (cI, 400, .inl g480)), (an, .inl (cI, 10, .inl g481)), (ak, .inl (cI, 10, .inl g482))]) [0, 1, 2, 3, 4] (by decide) rfl, hS, lv_sub (l' := [(1, .int x518), (0, .ref h)]) hl [0, 1] rfl⟩

def kwX11_allWays : List Cond := .code yX11_allWays cX11_allWays 4 (some .long) :: kG
theorem hdX11_allWays : yX11_allWays.cls ≠ "java/lang/invoke/MethodHandle" ∧ yX11_allWays.cls ≠ "java/lang/invoke/VarHandle" ∧ (parseMethodDescriptor yX11_allWays.desc).map (fun d => d.parameters.length) = some 0 := by decide +kernel
theorem gX11_allWays_J6_bitCount_0f7a4 : GoodIn kG (va_wsS RX11 325 yJ6_bitCount_0f7a4 kwJ6_bitCount_0f7a4) := gK w40_16 (gK w39_12 (gK w39_13 (gK w39_14 gGG)))
theorem gX11_allWays_X11_has : GoodIn kG (va_wsS RX11 310 yX11_has kwX11_has) := gK w37_11 (gK w37_12 (gK w0_5 (gK w37_13 gGG)))
theorem gX11_allWays_X11_looks : GoodIn kG (wsV RX11 322 RX11 yX11_looks kwX11_looks) := gK w40_8 (gK w40_9 (gK w40_10 (gK w0_5 (gK w40_11 gGG))))
theorem gX11_allWays_X11_shirts : GoodIn kG (wsV RX11 79 RX11 yX11_shirts kwX11_shirts) := gK w20_17 (gK w20_18 (gK w20_19 (gK w0_5 (gK w20_20 gGG))))
theorem dX11_allWays_0 : decode cX11_allWays 0 = .ok (.aload_n 0, 1) := by decide +kernel
theorem dX11_allWays_1 : decode cX11_allWays 1 = .ok (.invokevirtual 322, 3) := by decide +kernel
theorem dX11_allWays_4 : decode cX11_allWays 4 = .ok (.iconst 1, 1) := by decide +kernel
theorem dX11_allWays_5 : decode cX11_allWays 5 = .ok (.aload_n 0, 1) := by decide +kernel
theorem dX11_allWays_6 : decode cX11_allWays 6 = .ok (.invokevirtual 79, 3) := by decide +kernel
theorem dX11_allWays_9 : decode cX11_allWays 9 = .ok (.ishl, 1) := by decide +kernel
theorem dX11_allWays_10 : decode cX11_allWays 10 = .ok (.iconst 1, 1) := by decide +kernel
theorem dX11_allWays_11 : decode cX11_allWays 11 = .ok (.isub, 1) := by decide +kernel
theorem dX11_allWays_12 : decode cX11_allWays 12 = .ok (.istore_n 1, 1) := by decide +kernel
theorem dX11_allWays_13 : decode cX11_allWays 13 = .ok (.iload_n 1, 1) := by decide +kernel
theorem dX11_allWays_14 : decode cX11_allWays 14 = .ok (.ifCond .lt 108, 3) := by decide +kernel
theorem dX11_allWays_17 : decode cX11_allWays 17 = .ok (.iload_n 1, 1) := by decide +kernel
theorem dX11_allWays_18 : decode cX11_allWays 18 = .ok (.invokestatic 325, 3) := by decide +kernel
theorem dX11_allWays_21 : decode cX11_allWays 21 = .ok (.istore_n 2, 1) := by decide +kernel
theorem dX11_allWays_22 : decode cX11_allWays 22 = .ok (.iload_n 2, 1) := by decide +kernel
theorem dX11_allWays_23 : decode cX11_allWays 23 = .ok (.aload_n 0, 1) := by decide +kernel
theorem dX11_allWays_24 : decode cX11_allWays 24 = .ok (.getfield 316, 3) := by decide +kernel
theorem dX11_allWays_27 : decode cX11_allWays 27 = .ok (.if_icmp .le 6, 3) := by decide +kernel
theorem dX11_allWays_30 : decode cX11_allWays 30 = .ok (.goto 86, 3) := by decide +kernel
theorem dX11_allWays_33 : decode cX11_allWays 33 = .ok (.aload_n 0, 1) := by decide +kernel
theorem dX11_allWays_34 : decode cX11_allWays 34 = .ok (.getfield 45, 3) := by decide +kernel
theorem dX11_allWays_37 : decode cX11_allWays 37 = .ok (.iload_n 1, 1) := by decide +kernel
theorem dX11_allWays_38 : decode cX11_allWays 38 = .ok (.iload_n 2, 1) := by decide +kernel
theorem dX11_allWays_39 : decode cX11_allWays 39 = .ok (.aload_n 0, 1) := by decide +kernel
theorem dX11_allWays_40 : decode cX11_allWays 40 = .ok (.getfield 316, 3) := by decide +kernel
theorem dX11_allWays_43 : decode cX11_allWays 43 = .ok (.if_icmp .ne 7, 3) := by decide +kernel
theorem dX11_allWays_46 : decode cX11_allWays 46 = .ok (.lconst 1, 1) := by decide +kernel
theorem dX11_allWays_47 : decode cX11_allWays 47 = .ok (.goto 4, 3) := by decide +kernel
theorem dX11_allWays_50 : decode cX11_allWays 50 = .ok (.lconst 0, 1) := by decide +kernel
theorem dX11_allWays_51 : decode cX11_allWays 51 = .ok (.lastore, 1) := by decide +kernel
theorem dX11_allWays_52 : decode cX11_allWays 52 = .ok (.iconst 0, 1) := by decide +kernel
theorem dX11_allWays_53 : decode cX11_allWays 53 = .ok (.istore_n 3, 1) := by decide +kernel
theorem dX11_allWays_54 : decode cX11_allWays 54 = .ok (.iload_n 3, 1) := by decide +kernel
theorem dX11_allWays_55 : decode cX11_allWays 55 = .ok (.aload_n 0, 1) := by decide +kernel
theorem dX11_allWays_56 : decode cX11_allWays 56 = .ok (.invokevirtual 79, 3) := by decide +kernel
theorem dX11_allWays_59 : decode cX11_allWays 59 = .ok (.if_icmp .ge 57, 3) := by decide +kernel
theorem dX11_allWays_62 : decode cX11_allWays 62 = .ok (.iload_n 2, 1) := by decide +kernel
theorem dX11_allWays_63 : decode cX11_allWays 63 = .ok (.aload_n 0, 1) := by decide +kernel
theorem dX11_allWays_64 : decode cX11_allWays 64 = .ok (.getfield 316, 3) := by decide +kernel
theorem dX11_allWays_67 : decode cX11_allWays 67 = .ok (.if_icmp .ge 49, 3) := by decide +kernel
theorem dX11_allWays_70 : decode cX11_allWays 70 = .ok (.aload_n 0, 1) := by decide +kernel
theorem dX11_allWays_71 : decode cX11_allWays 71 = .ok (.getfield 42, 3) := by decide +kernel
theorem dX11_allWays_74 : decode cX11_allWays 74 = .ok (.iload_n 2, 1) := by decide +kernel
theorem dX11_allWays_75 : decode cX11_allWays 75 = .ok (.iaload, 1) := by decide +kernel
theorem dX11_allWays_76 : decode cX11_allWays 76 = .ok (.iload_n 3, 1) := by decide +kernel
theorem dX11_allWays_77 : decode cX11_allWays 77 = .ok (.invokestatic 310, 3) := by decide +kernel
theorem dX11_allWays_80 : decode cX11_allWays 80 = .ok (.ifCond .eq 30, 3) := by decide +kernel
theorem dX11_allWays_83 : decode cX11_allWays 83 = .ok (.iload_n 1, 1) := by decide +kernel
theorem dX11_allWays_84 : decode cX11_allWays 84 = .ok (.iload_n 3, 1) := by decide +kernel
theorem dX11_allWays_85 : decode cX11_allWays 85 = .ok (.invokestatic 310, 3) := by decide +kernel
theorem dX11_allWays_88 : decode cX11_allWays 88 = .ok (.ifCond .ne 22, 3) := by decide +kernel
theorem dX11_allWays_91 : decode cX11_allWays 91 = .ok (.aload_n 0, 1) := by decide +kernel
theorem dX11_allWays_92 : decode cX11_allWays 92 = .ok (.getfield 45, 3) := by decide +kernel
theorem dX11_allWays_95 : decode cX11_allWays 95 = .ok (.iload_n 1, 1) := by decide +kernel
theorem dX11_allWays_96 : decode cX11_allWays 96 = .ok (.dup2, 1) := by decide +kernel
theorem dX11_allWays_97 : decode cX11_allWays 97 = .ok (.laload, 1) := by decide +kernel
theorem dX11_allWays_98 : decode cX11_allWays 98 = .ok (.aload_n 0, 1) := by decide +kernel
theorem dX11_allWays_99 : decode cX11_allWays 99 = .ok (.getfield 45, 3) := by decide +kernel
theorem dX11_allWays_102 : decode cX11_allWays 102 = .ok (.iload_n 1, 1) := by decide +kernel
theorem dX11_allWays_103 : decode cX11_allWays 103 = .ok (.iconst 1, 1) := by decide +kernel
theorem dX11_allWays_104 : decode cX11_allWays 104 = .ok (.iload_n 3, 1) := by decide +kernel
theorem dX11_allWays_105 : decode cX11_allWays 105 = .ok (.ishl, 1) := by decide +kernel
theorem dX11_allWays_106 : decode cX11_allWays 106 = .ok (.ior, 1) := by decide +kernel
theorem dX11_allWays_107 : decode cX11_allWays 107 = .ok (.laload, 1) := by decide +kernel
theorem dX11_allWays_108 : decode cX11_allWays 108 = .ok (.ladd, 1) := by decide +kernel
theorem dX11_allWays_109 : decode cX11_allWays 109 = .ok (.lastore, 1) := by decide +kernel
theorem dX11_allWays_110 : decode cX11_allWays 110 = .ok (.iinc 3 1, 3) := by decide +kernel
theorem dX11_allWays_113 : decode cX11_allWays 113 = .ok (.goto (-59), 3) := by decide +kernel
theorem dX11_allWays_116 : decode cX11_allWays 116 = .ok (.iinc 1 (-1), 3) := by decide +kernel
theorem dX11_allWays_119 : decode cX11_allWays 119 = .ok (.goto (-106), 3) := by decide +kernel
theorem dX11_allWays_122 : decode cX11_allWays 122 = .ok (.aload_n 0, 1) := by decide +kernel
theorem dX11_allWays_123 : decode cX11_allWays 123 = .ok (.getfield 45, 3) := by decide +kernel
theorem dX11_allWays_126 : decode cX11_allWays 126 = .ok (.iconst 0, 1) := by decide +kernel
theorem dX11_allWays_127 : decode cX11_allWays 127 = .ok (.laload, 1) := by decide +kernel
theorem dX11_allWays_128 : decode cX11_allWays 128 = .ok (.lreturn, 1) := by decide +kernel
set_option maxHeartbeats 4000000 in
set_option maxRecDepth 100000 in
/-- reference: allWays -/
theorem r_allWays (l : Launch) (D : va_G) (cI cJ cB cC : ClassId) (h : Nat) (th : Int32) (aw : Nat) (ai : Nat) (ab : Nat) (ac : Nat) (hi : Int32) (re : Int32) (aP : Nat) (ta : Int32) (po : Int32) (en : Int32) (be : Int32) (de : Int32) (fa : Int32) (a5 : Nat) (sp : Int32) (av : Nat) (an : Nat) (ak : Nat) (ne : Int32) (aW : Nat) (aC : Nat) (ag : Nat) (aT : Nat) (aN : Nat) (aF : Nat) (fw : Nat → Int32) (fv : Nat → Int32) (fn : Nat → Int32) (fk : Nat → Int32) (fW : Nat → Int64) (sz : Nat) (H_fw_W : wW fw) (H_fw_L : wL fw) (H_fn_N : wN fn) : Met l yX11_allWays kwX11_allWays ({ frames := 8, cells := 0, slots := 0, locals := 188 } : Room) (kPre D (kT cI cJ cB cC) sz [(h, oX11 th aw ai ab ac hi re aP ta po en be de fa a5 sp av an ak ne aW aC ag aT aN aF), (aw, .inl (cI, 2179, .inl fw)), (av, .inl (cI, 400, .inl fv)), (an, .inl (cI, 10, .inl fn)), (ak, .inl (cI, 10, .inl fk)), (aW, .inl (cJ, 4096, .inr (.inl fW)))] [.ref h]) (va_Ql (fun (r : Int64) (uu : Int32 × (Nat → Int32) × (Nat → Int32) × (Nat → Int32) × (Nat → Int64)) => match uu with | (n0_, f1_, f2_, f3_, f4_) => Rg n0_ 0 10 ∧ wN f2_) (fun (uu : Int32 × (Nat → Int32) × (Nat → Int32) × (Nat → Int32) × (Nat → Int64)) (t : State) => match uu with | (n0_, f1_, f2_, f3_, f4_) => kB D (kT cI cJ cB cC) (va_A [(h, oX11 th aw ai ab ac hi re aP ta po en be de fa a5 sp av an ak ne aW aC ag aT aN aF), (aw, .inl (cI, 2179, .inl fw)), (av, .inl (cI, 400, .inl fv)), (an, .inl (cI, 10, .inl fn)), (ak, .inl (cI, 10, .inl fk)), (aW, .inl (cJ, 4096, .inr (.inl fW)))] sz) [(h, oX11 th aw ai ab ac hi re aP ta po en be de fa a5 sp av an ak n0_ aW aC ag aT aN aF), (aw, .inl (cI, 2179, .inl fw)), (av, .inl (cI, 400, .inl f1_)), (an, .inl (cI, 10, .inl f2_)), (ak, .inl (cI, 10, .inl f3_)), (aW, .inl (cJ, 4096, .inr (.inl f4_)))] t) (va_A [(h, oX11 th aw ai ab ac hi re aP ta po en be de fa a5 sp av an ak ne aW aC ag aT aN aF), (aw, .inl (cI, 2179, .inl fw)), (av, .inl (cI, 400, .inl fv)), (an, .inl (cI, 10, .inl fn)), (ak, .inl (cI, 10, .inl fk)), (aW, .inl (cJ, 4096, .inr (.inl fW)))] sz)) 0 0 (va_A [(h, oX11 th aw ai ab ac hi re aP ta po en be de fa a5 sp av an ak ne aW aC ag aT aN aF), (aw, .inl (cI, 2179, .inl fw)), (av, .inl (cI, 400, .inl fv)), (an, .inl (cI, 10, .inl fn)), (ak, .inl (cI, 10, .inl fk)), (aW, .inl (cJ, 4096, .inr (.inl fW)))] sz) := by
  refine Met.ofW (cc := cX11_allWays) (maxL := 4) (ret := (some .long)) (by decide) rfl ?_
  intro p e s m args below meth c s₁ B hml hv
  obtain ⟨rfl, hsz, hN, hE, hP, hK, hD0⟩ := hv
  have hx := B.exec
  have hb := B.bytes
  have hr := B.returns
  have hts := fun (w : Cond) (h : w ∈ kG) => atoms_spec (ws := kwX11_allWays) B.pre w (List.mem_cons_of_mem _ h)
  have hown : s.vm.findClass RX11 = some m.cls := findClass_of_methodNamed B.named
  subst hsz
  have hD := hD0.self (sz := s.heap.size)
  generalize hAe : va_A [(h, oX11 th aw ai ab ac hi re aP ta po en be de fa a5 sp av an ak ne aW aC ag aT aN aF), (aw, .inl (cI, 2179, .inl fw)), (av, .inl (cI, 400, .inl fv)), (an, .inl (cI, 10, .inl fn)), (ak, .inl (cI, 10, .inl fk)), (aW, .inl (cJ, 4096, .inr (.inl fW)))] s.heap.size = A at hD hE ⊢
  have hA : ∀ q : Nat, s.heap.size ≤ q → A q := fun q h => by rw [← hAe]; exact Or.inr h
  have hl := lv_entry ([.ref h]) (n := 4) (Nat.le_of_ble_eq_true rfl)
  rw [lg_entry_eq]
  generalize (lg_sl ([.ref h]) ++ List.replicate (4 - (lg_sl ([.ref h])).length) Slot.unset).toArray = ls at hl ⊢
  have hl : lv_has ls 4 [(0, .ref h)] := hl
  obtain ⟨H, hH0⟩ : ∃ H, H = s.heap := ⟨_, rfl⟩
  have hS : va_S A s.heap H [] := by rw [hH0]; exact va_S.rf
  have hP : va_P D vwCl [(h, oX11 th aw ai ab ac hi re aP ta po en be de fa a5 sp av an ak ne aW aC ag aT aN aF), (aw, .inl (cI, 2179, .inl fw)), (av, .inl (cI, 400, .inl fv)), (an, .inl (cI, 10, .inl fn)), (ak, .inl (cI, 10, .inl fk)), (aW, .inl (cJ, 4096, .inr (.inl fW)))] H := by rw [hH0]; exact hP
  refine kHeap hH0 ?_
  clear hH0
  refine lv_aload_n hx hb dX11_allWays_0 rfl (lv_at hl 0 rfl) ?_
  refine kcallv (wc := [(h, oX11 th aw ai ab ac hi re aP ta po en be de fa a5 sp av an ak ne aW aC ag aT aN aF), (aw, .inl (cI, 2179, .inl fw)), (av, .inl (cI, 400, .inl fv)), (an, .inl (cI, 10, .inl fn)), (ak, .inl (cI, 10, .inl fk))]) (wr := [(aW, .inl (cJ, 4096, .inr (.inl fW)))]) hP hD hS hA [0, 1, 2, 3, 4] [5] rfl rfl (by decide) (by decide) (by decide) (fun hPc hDc hFc => va_runV (As := []) (rest := []) ⟨hx, hb, hml, hown, hts⟩ (r_looks l D cI cJ cB cC h th aw ai ab ac hi re aP ta po en be de fa a5 sp av an ak ne aW aC ag aT aN aF fw fv fn fk H.size H_fw_W H_fw_L H_fn_N) (cwV 0 hts gX11_allWays_X11_looks rfl rfl rfl ⟨rfl, hdX11_looks⟩ ⟨Nat.le_of_ble_eq_true rfl, Nat.le_of_ble_eq_true rfl⟩) ⟨kBlind, va_recv hK hPc (ci := 10) (q0 := 0) rfl rfl, fun U hU hW => ⟨rfl, by rw [hU], hN.warm hW, hE.pass hS hFc hW hU, by rw [hU]; exact hPc, va_K.moved hW.alike hK, hDc⟩⟩ rfl rfl hl.1 rfl (lv_room (Nat.le_of_ble_eq_true rfl)) dX11_allWays_1 ⟨Nat.le_of_ble_eq_true rfl, Nat.le_of_ble_eq_true rfl⟩) (fun u H locs hw hP hD hS => ?_)
  obtain ⟨x1, g2, g3, g4⟩ := u
  have hP : va_P D vwCl [(aW, .inl (cJ, 4096, .inr (.inl fW))), (h, oX11 th aw ai ab ac hi re aP ta po en be de fa a5 sp av an ak x1 aW aC ag aT aN aF), (aw, .inl (cI, 2179, .inl fw)), (av, .inl (cI, 400, .inl g2)), (an, .inl (cI, 10, .inl g3)), (ak, .inl (cI, 10, .inl g4))] H := hP
  have hD : va_D A [(aW, .inl (cJ, 4096, .inr (.inl fW))), (h, oX11 th aw ai ab ac hi re aP ta po en be de fa a5 sp av an ak x1 aW aC ag aT aN aF), (aw, .inl (cI, 2179, .inl fw)), (av, .inl (cI, 400, .inl g2)), (an, .inl (cI, 10, .inl g3)), (ak, .inl (cI, 10, .inl g4))] := hD
  obtain ⟨k5, k6⟩ := hw
  refine lv_iconst (v := 1) hx hb dX11_allWays_4 (by decide) ?_
  refine lv_aload_n hx hb dX11_allWays_5 rfl (lv_at hl 0 rfl) ?_
  refine kpurei (wc := [(h, oX11 th aw ai ab ac hi re aP ta po en be de fa a5 sp av an ak x1 aW aC ag aT aN aF), (aw, .inl (cI, 2179, .inl fw))]) hP hD hS hA [1, 2] rfl (by decide) (fun hPc hDc hFc => va_runV (As := []) (rest := [.int 1]) ⟨hx, hb, hml, hown, hts⟩ (r_shirts l D cI cJ cB cC h th aw ai ab ac hi re aP ta po en be de fa a5 sp av an ak x1 aW aC ag aT aN aF fw H.size H_fw_W) (cwV 0 hts gX11_allWays_X11_shirts rfl rfl rfl ⟨rfl, hdX11_shirts⟩ ⟨Nat.le_of_ble_eq_true rfl, Nat.le_of_ble_eq_true rfl⟩) ⟨kBlind, va_recv hK hPc (ci := 10) (q0 := 0) rfl rfl, fun U hU hW => ⟨rfl, by rw [hU], hN.warm hW, hE.pass hS hFc hW hU, by rw [hU]; exact hPc, va_K.moved hW.alike hK, hDc⟩⟩ rfl rfl hl.1 rfl (lv_room (Nat.le_of_ble_eq_true rfl)) dX11_allWays_6 ⟨Nat.le_of_ble_eq_true rfl, Nat.le_of_ble_eq_true rfl⟩) (fun r7 u H locs hw hP hS => ?_)
  obtain ⟨k8, k9⟩ := hw
  refine lv_ishl hx hb dX11_allWays_9 ?_
  refine lv_topi (fun x10 ex10 => ?_)
  have k11 : Rg x10 1 4096 := rg_shl1 12 ex10 k9 (by decide)
  clear ex10
  refine lv_iconst (v := 1) hx hb dX11_allWays_10 (by decide) ?_
  refine lv_isub hx hb dX11_allWays_11 ?_
  refine lv_topi (fun x12 ex12 => ?_)
  have k13 : Rg x12 0 4095 := rg_sub ex12 k11 (rg_lit (n := 1) (by decide)) (by decide)
  clear ex12
  refine lv_istore_n (lv' := [(1, .int x12), (0, .ref h)]) hx hb dX11_allWays_12 rfl hl (by decide) rfl (fun ls hl => ?_)
  refine k_loop (hd := 13) (fun (u : Int32 × (Nat → Int64)) => match u with | (y2298, g2299) => ((y2298).toInt - (-1)).toNat) (fun (u : Int32 × (Nat → Int64)) (H : Heap) (locs : List Loc) (ls : Array Slot) => match u with | (y2298, g2299) => Rg y2298 (-1) 4095 ∧ va_P D vwCl [(aW, .inl (cJ, 4096, .inr (.inl g2299))), (h, oX11 th aw ai ab ac hi re aP ta po en be de fa a5 sp av an ak x1 aW aC ag aT aN aF), (aw, .inl (cI, 2179, .inl fw)), (av, .inl (cI, 400, .inl g2)), (an, .inl (cI, 10, .inl g3)), (ak, .inl (cI, 10, .inl g4))] H ∧ va_D A [(aW, .inl (cJ, 4096, .inr (.inl g2299))), (h, oX11 th aw ai ab ac hi re aP ta po en be de fa a5 sp av an ak x1 aW aC ag aT aN aF), (aw, .inl (cI, 2179, .inl fw)), (av, .inl (cI, 400, .inl g2)), (an, .inl (cI, 10, .inl g3)), (ak, .inl (cI, 10, .inl g4))] ∧ va_S A s.heap H locs ∧ lv_has ls 4 [(1, .int y2298), (0, .ref h)]) (x12, fW) ⟨(rg_w k13 (by decide)), hP.sub (ws' := [(aW, .inl (cJ, 4096, .inr (.inl fW))), (h, oX11 th aw ai ab ac hi re aP ta po en be de fa a5 sp av an ak x1 aW aC ag aT aN aF), (aw, .inl (cI, 2179, .inl fw)), (av, .inl (cI, 400, .inl g2)), (an, .inl (cI, 10, .inl g3)), (ak, .inl (cI, 10, .inl g4))]) [0, 1, 2, 3, 4, 5] rfl, hD.sub (ws' := [(aW, .inl (cJ, 4096, .inr (.inl fW))), (h, oX11 th aw ai ab ac hi re aP ta po en be de fa a5 sp av an ak x1 aW aC ag aT aN aF), (aw, .inl (cI, 2179, .inl fw)), (av, .inl (cI, 400, .inl g2)), (an, .inl (cI, 10, .inl g3)), (ak, .inl (cI, 10, .inl g4))]) [0, 1, 2, 3, 4, 5] (by decide) rfl, hS, lv_sub (l' := [(1, .int x12), (0, .ref h)]) hl [0, 1] rfl⟩ (fun u H locs ls hI ih2300 => ?_)
  clear hP hD hS hl
  obtain ⟨y2298, g2299⟩ := u
  obtain ⟨hy2298, hP, hD, hS, hl⟩ := hI
  have hP : va_P D vwCl [(aW, .inl (cJ, 4096, .inr (.inl g2299))), (h, oX11 th aw ai ab ac hi re aP ta po en be de fa a5 sp av an ak x1 aW aC ag aT aN aF), (aw, .inl (cI, 2179, .inl fw)), (av, .inl (cI, 400, .inl g2)), (an, .inl (cI, 10, .inl g3)), (ak, .inl (cI, 10, .inl g4))] H := hP
  have hD : va_D A [(aW, .inl (cJ, 4096, .inr (.inl g2299))), (h, oX11 th aw ai ab ac hi re aP ta po en be de fa a5 sp av an ak x1 aW aC ag aT aN aF), (aw, .inl (cI, 2179, .inl fw)), (av, .inl (cI, 400, .inl g2)), (an, .inl (cI, 10, .inl g3)), (ak, .inl (cI, 10, .inl g4))] := hD
  have hl : lv_has ls 4 [(1, .int y2298), (0, .ref h)] := hl
  refine lv_iload_n hx hb dX11_allWays_13 rfl (lv_at hl 0 rfl) ?_
  refine lv_if_lt (tgt := 122) hx hb dX11_allWays_14 (by decide) (fun c2301 => ?_) (fun c2301 => ?_)
  · skip
    have k2302 : Rg y2298 (-1) (-1) := rg_l1 (ltI c2301) hy2298 (rg_lit (n := 0) (by decide)) (by decide)
    refine lv_aload_n hx hb dX11_allWays_122 rfl (lv_at hl 1 rfl) ?_
    refine va_get (D := D) (ci := 10) (v := .ref aW) (C := RX11) (T := TX11) (N := 26) hx hb hts iG_X11 hown hK hP 1 rfl rfl 20 (by decide) (hts _ w5_14) (fun _ h9 => h9) rfl dX11_allWays_123 ?_
    refine lv_iconst (v := 0) hx hb dX11_allWays_126 (by decide) ?_
    refine va_lald hx hb hK hP 0 1 rfl rfl (rg_in (rg_lit (n := 0) (by decide)) (by decide)) dX11_allWays_127 ?_
    refine lv_topl (fun x2303 ex2303 => ?_)
    clear ex2303
    have hP9 := hP.sub (ws' := [(h, oX11 th aw ai ab ac hi re aP ta po en be de fa a5 sp av an ak x1 aW aC ag aT aN aF), (aw, .inl (cI, 2179, .inl fw)), (av, .inl (cI, 400, .inl g2)), (an, .inl (cI, 10, .inl g3)), (ak, .inl (cI, 10, .inl g4)), (aW, .inl (cJ, 4096, .inr (.inl g2299)))]) [1, 2, 3, 4, 5, 0] rfl
    have hD9 := hD.sub (ws' := [(h, oX11 th aw ai ab ac hi re aP ta po en be de fa a5 sp av an ak x1 aW aC ag aT aN aF), (aw, .inl (cI, 2179, .inl fw)), (av, .inl (cI, 400, .inl g2)), (an, .inl (cI, 10, .inl g3)), (ak, .inl (cI, 10, .inl g4)), (aW, .inl (cJ, 4096, .inr (.inl g2299)))]) [1, 2, 3, 4, 5, 0] (by decide) rfl
    exact W.lret (v := x2303) hx hb hr (fun t ht hW => ⟨⟨x2303, (x1, g2, g3, g4, g2299), rfl, ⟨k5, k6⟩, by rw [ht]; exact hP9, va_K.moved hW.alike hK, hD9⟩, hS.F ht⟩) hS.2.2 dX11_allWays_128
  · skip
    have k2304 : Rg y2298 0 4095 := rg_e2 (nltI c2301) (rg_lit (n := 0) (by decide)) hy2298 (by decide)
    refine lv_iload_n hx hb dX11_allWays_17 rfl (lv_at hl 0 rfl) ?_
    refine kpurei (wc := []) hP hD hS hA [] rfl (by decide) (fun hPc hDc hFc => va_runS (As := [.int y2298]) (rest := []) ⟨hx, hb, hml, hown, hts⟩ (z_bitCount l D cI cJ cB cC y2298 H.size) (va_cwS 1 hts gX11_allWays_J6_bitCount_0f7a4 rfl rfl rfl hdJ6_bitCount_0f7a4 ⟨Nat.le_of_ble_eq_true rfl, Nat.le_of_ble_eq_true rfl⟩) ⟨kBlind, fun U hU hW => ⟨rfl, by rw [hU], hN.warm hW, hE.pass hS hFc hW hU, by rw [hU]; exact hPc, va_K.moved hW.alike hK, hDc⟩⟩ rfl rfl hl.1 rfl (lv_room (Nat.le_of_ble_eq_true rfl)) dX11_allWays_18 ⟨Nat.le_of_ble_eq_true rfl, Nat.le_of_ble_eq_true rfl⟩) (fun r2305 u H locs hw hP hS => ?_)
    have k2306 := hw
    refine lv_istore_n (lv' := [(2, .int r2305), (1, .int y2298), (0, .ref h)]) hx hb dX11_allWays_21 rfl hl (by decide) rfl (fun ls hl => ?_)
    refine lv_iload_n hx hb dX11_allWays_22 rfl (lv_at hl 0 rfl) ?_
    refine lv_aload_n hx hb dX11_allWays_23 rfl (lv_at hl 2 rfl) ?_
    refine va_get (D := D) (ci := 10) (v := .int x1) (C := RX11) (T := TX11) (N := 26) hx hb hts iG_X11 hown hK hP 1 rfl rfl 19 (by decide) (hts _ w40_7) (fun _ h9 => h9) rfl dX11_allWays_24 ?_
    refine k_join (hd := 116) (cells2 := 0) (slots2 := 0) (fun (g2870 : (Nat → Int64)) => []) (fun (g2870 : (Nat → Int64)) (H : Heap) (locs : List Loc) (ls : Array Slot) => va_P D vwCl [(aW, .inl (cJ, 4096, .inr (.inl g2870))), (h, oX11 th aw ai ab ac hi re aP ta po en be de fa a5 sp av an ak x1 aW aC ag aT aN aF), (aw, .inl (cI, 2179, .inl fw)), (av, .inl (cI, 400, .inl g2)), (an, .inl (cI, 10, .inl g3)), (ak, .inl (cI, 10, .inl g4))] H ∧ va_D A [(aW, .inl (cJ, 4096, .inr (.inl g2870))), (h, oX11 th aw ai ab ac hi re aP ta po en be de fa a5 sp av an ak x1 aW aC ag aT aN aF), (aw, .inl (cI, 2179, .inl fw)), (av, .inl (cI, 400, .inl g2)), (an, .inl (cI, 10, .inl g3)), (ak, .inl (cI, 10, .inl g4))] ∧ va_S A s.heap H locs ∧ lv_has ls 4 [(2, .int r2305), (1, .int y2298), (0, .ref h)]) (fun u H locs ls hI => ?_) (fun hJ116 => ?_)
    · skip
      clear hP hD hS hl
      obtain ⟨g2870, rfl⟩ : ∃ z, z = u := ⟨_, rfl⟩
      obtain ⟨hP, hD, hS, hl⟩ := hI
      have hP : va_P D vwCl [(aW, .inl (cJ, 4096, .inr (.inl g2870))), (h, oX11 th aw ai ab ac hi re aP ta po en be de fa a5 sp av an ak x1 aW aC ag aT aN aF), (aw, .inl (cI, 2179, .inl fw)), (av, .inl (cI, 400, .inl g2)), (an, .inl (cI, 10, .inl g3)), (ak, .inl (cI, 10, .inl g4))] H := hP
      have hD : va_D A [(aW, .inl (cJ, 4096, .inr (.inl g2870))), (h, oX11 th aw ai ab ac hi re aP ta po en be de fa a5 sp av an ak x1 aW aC ag aT aN aF), (aw, .inl (cI, 2179, .inl fw)), (av, .inl (cI, 400, .inl g2)), (an, .inl (cI, 10, .inl g3)), (ak, .inl (cI, 10, .inl g4))] := hD
      have hl : lv_has ls 4 [(2, .int r2305), (1, .int y2298), (0, .ref h)] := hl
      obtain ⟨x2871, ex2871⟩ : ∃ y : Int32, y = y2298 + (-1) := ⟨_, rfl⟩
      refine lv_iinc (v := x2871) (lv' := [(1, .int x2871), (2, .int r2305), (0, .ref h)]) hx hb dX11_allWays_116 hl (k := 1) rfl (by rw [ex2871]; rfl) (by decide) rfl (fun ls hl => ?_)
      have k2872 : Rg x2871 (-1) 4094 := rg_add ex2871 k2304 (rg_lit (n := -1) (by decide)) (by decide)
      refine lv_goto (tgt := 13) hx hb dX11_allWays_119 (by decide) ?_
      exact ih2300 (x2871, g2870) _ _ _ (by show ((x2871).toInt - (-1)).toNat < ((y2298).toInt - (-1)).toNat; exact mu_dn ex2871 k2304 k2872 (by decide)) ⟨(rg_w k2872 (by decide)), hP.sub (ws' := [(aW, .inl (cJ, 4096, .inr (.inl g2870))), (h, oX11 th aw ai ab ac hi re aP ta po en be de fa a5 sp av an ak x1 aW aC ag aT aN aF), (aw, .inl (cI, 2179, .inl fw)), (av, .inl (cI, 400, .inl g2)), (an, .inl (cI, 10, .inl g3)), (ak, .inl (cI, 10, .inl g4))]) [0, 1, 2, 3, 4, 5] rfl, hD.sub (ws' := [(aW, .inl (cJ, 4096, .inr (.inl g2870))), (h, oX11 th aw ai ab ac hi re aP ta po en be de fa a5 sp av an ak x1 aW aC ag aT aN aF), (aw, .inl (cI, 2179, .inl fw)), (av, .inl (cI, 400, .inl g2)), (an, .inl (cI, 10, .inl g3)), (ak, .inl (cI, 10, .inl g4))]) [0, 1, 2, 3, 4, 5] (by decide) rfl, hS, lv_sub (l' := [(1, .int x2871), (0, .ref h)]) hl [0, 2] rfl⟩
    refine lv_icmp_le (tgt := 33) hx hb dX11_allWays_27 (by decide) (fun c2873 => ?_) (fun c2873 => ?_)
    · skip
      have k2874 : Rg r2305 0 10 := rg_e1 (leI c2873) k2306 k5 (by decide)
      refine lv_aload_n hx hb dX11_allWays_33 rfl (lv_at hl 2 rfl) ?_
      refine va_get (D := D) (ci := 10) (v := .ref aW) (C := RX11) (T := TX11) (N := 26) hx hb hts iG_X11 hown hK hP 1 rfl rfl 20 (by decide) (hts _ w5_14) (fun _ h9 => h9) rfl dX11_allWays_34 ?_
      refine lv_iload_n hx hb dX11_allWays_37 rfl (lv_at hl 1 rfl) ?_
      refine lv_iload_n hx hb dX11_allWays_38 rfl (lv_at hl 0 rfl) ?_
      refine lv_aload_n hx hb dX11_allWays_39 rfl (lv_at hl 2 rfl) ?_
      refine va_get (D := D) (ci := 10) (v := .int x1) (C := RX11) (T := TX11) (N := 26) hx hb hts iG_X11 hown hK hP 1 rfl rfl 19 (by decide) (hts _ w40_7) (fun _ h9 => h9) rfl dX11_allWays_40 ?_
      refine k_join (hd := 51) (cells2 := 0) (slots2 := 0) (fun (u : Int64 × Int32) => match u with | (z2878, z2879) => [.long z2878, .int z2879, .ref aW]) (fun (u : Int64 × Int32) (H : Heap) (locs : List Loc) (ls : Array Slot) => match u with | (z2878, z2879) => Rg z2879 0 4095 ∧ va_P D vwCl [(aW, .inl (cJ, 4096, .inr (.inl g2299))), (h, oX11 th aw ai ab ac hi re aP ta po en be de fa a5 sp av an ak x1 aW aC ag aT aN aF), (aw, .inl (cI, 2179, .inl fw)), (av, .inl (cI, 400, .inl g2)), (an, .inl (cI, 10, .inl g3)), (ak, .inl (cI, 10, .inl g4))] H ∧ va_D A [(aW, .inl (cJ, 4096, .inr (.inl g2299))), (h, oX11 th aw ai ab ac hi re aP ta po en be de fa a5 sp av an ak x1 aW aC ag aT aN aF), (aw, .inl (cI, 2179, .inl fw)), (av, .inl (cI, 400, .inl g2)), (an, .inl (cI, 10, .inl g3)), (ak, .inl (cI, 10, .inl g4))] ∧ va_S A s.heap H locs ∧ lv_has ls 4 [(2, .int r2305), (1, .int y2298), (0, .ref h)]) (fun u H locs ls hI => ?_) (fun hJ51 => ?_)
      · skip
        clear hP hD hS hl
        obtain ⟨z2878, z2879⟩ := u
        obtain ⟨hz2879, hP, hD, hS, hl⟩ := hI
        have hP : va_P D vwCl [(aW, .inl (cJ, 4096, .inr (.inl g2299))), (h, oX11 th aw ai ab ac hi re aP ta po en be de fa a5 sp av an ak x1 aW aC ag aT aN aF), (aw, .inl (cI, 2179, .inl fw)), (av, .inl (cI, 400, .inl g2)), (an, .inl (cI, 10, .inl g3)), (ak, .inl (cI, 10, .inl g4))] H := hP
        have hD : va_D A [(aW, .inl (cJ, 4096, .inr (.inl g2299))), (h, oX11 th aw ai ab ac hi re aP ta po en be de fa a5 sp av an ak x1 aW aC ag aT aN aF), (aw, .inl (cI, 2179, .inl fw)), (av, .inl (cI, 400, .inl g2)), (an, .inl (cI, 10, .inl g3)), (ak, .inl (cI, 10, .inl g4))] := hD
        have hl : lv_has ls 4 [(2, .int r2305), (1, .int y2298), (0, .ref h)] := hl
        show W _ _ _ _ _ _ _ _ _ _ _ _ _ _ _ (F0 m 51 ls [.long z2878, .int z2879, .ref aW])
        refine va_last hx hb hK hP hD hS 0 1 rfl rfl (rg_in hz2879 (by decide)) dX11_allWays_51 (fun H locs hP hD hS => ?_)
        have hP : va_P D vwCl [(aW, .inl (cJ, 4096, .inr (.inl (vp_updL g2299 z2879.toNatClampNeg z2878)))), (h, oX11 th aw ai ab ac hi re aP ta po en be de fa a5 sp av an ak x1 aW aC ag aT aN aF), (aw, .inl (cI, 2179, .inl fw)), (av, .inl (cI, 400, .inl g2)), (an, .inl (cI, 10, .inl g3)), (ak, .inl (cI, 10, .inl g4))] H := hP
        have hD : va_D A [(aW, .inl (cJ, 4096, .inr (.inl (vp_updL g2299 z2879.toNatClampNeg z2878)))), (h, oX11 th aw ai ab ac hi re aP ta po en be de fa a5 sp av an ak x1 aW aC ag aT aN aF), (aw, .inl (cI, 2179, .inl fw)), (av, .inl (cI, 400, .inl g2)), (an, .inl (cI, 10, .inl g3)), (ak, .inl (cI, 10, .inl g4))] := hD
        generalize hge : (vp_updL g2299 z2879.toNatClampNeg z2878) = g2880 at hP hD
        clear hge
        refine lv_iconst (v := 0) hx hb dX11_allWays_52 (by decide) ?_
        refine lv_istore_n (lv' := [(3, .int 0), (2, .int r2305), (1, .int y2298), (0, .ref h)]) hx hb dX11_allWays_53 rfl hl (by decide) rfl (fun ls hl => ?_)
        refine k_loop (hd := 54) (fun (u : Int32 × (Nat → Int64)) => match u with | (y3403, g3404) => (12 - (y3403).toInt).toNat) (fun (u : Int32 × (Nat → Int64)) (H : Heap) (locs : List Loc) (ls : Array Slot) => match u with | (y3403, g3404) => Rg y3403 0 12 ∧ va_P D vwCl [(aW, .inl (cJ, 4096, .inr (.inl g3404))), (h, oX11 th aw ai ab ac hi re aP ta po en be de fa a5 sp av an ak x1 aW aC ag aT aN aF), (aw, .inl (cI, 2179, .inl fw)), (av, .inl (cI, 400, .inl g2)), (an, .inl (cI, 10, .inl g3)), (ak, .inl (cI, 10, .inl g4))] H ∧ va_D A [(aW, .inl (cJ, 4096, .inr (.inl g3404))), (h, oX11 th aw ai ab ac hi re aP ta po en be de fa a5 sp av an ak x1 aW aC ag aT aN aF), (aw, .inl (cI, 2179, .inl fw)), (av, .inl (cI, 400, .inl g2)), (an, .inl (cI, 10, .inl g3)), (ak, .inl (cI, 10, .inl g4))] ∧ va_S A s.heap H locs ∧ lv_has ls 4 [(3, .int y3403), (2, .int r2305), (1, .int y2298), (0, .ref h)]) ((0 : Int32), g2880) ⟨(rg_w (rg_lit (n := 0) (by decide)) (by decide)), hP.sub (ws' := [(aW, .inl (cJ, 4096, .inr (.inl g2880))), (h, oX11 th aw ai ab ac hi re aP ta po en be de fa a5 sp av an ak x1 aW aC ag aT aN aF), (aw, .inl (cI, 2179, .inl fw)), (av, .inl (cI, 400, .inl g2)), (an, .inl (cI, 10, .inl g3)), (ak, .inl (cI, 10, .inl g4))]) [0, 1, 2, 3, 4, 5] rfl, hD.sub (ws' := [(aW, .inl (cJ, 4096, .inr (.inl g2880))), (h, oX11 th aw ai ab ac hi re aP ta po en be de fa a5 sp av an ak x1 aW aC ag aT aN aF), (aw, .inl (cI, 2179, .inl fw)), (av, .inl (cI, 400, .inl g2)), (an, .inl (cI, 10, .inl g3)), (ak, .inl (cI, 10, .inl g4))]) [0, 1, 2, 3, 4, 5] (by decide) rfl, hS, lv_sub (l' := [(3, .int 0), (2, .int r2305), (1, .int y2298), (0, .ref h)]) hl [0, 1, 2, 3] rfl⟩ (fun u H locs ls hI ih3405 => ?_)
        clear hP hD hS hl
        obtain ⟨y3403, g3404⟩ := u
        obtain ⟨hy3403, hP, hD, hS, hl⟩ := hI
        have hP : va_P D vwCl [(aW, .inl (cJ, 4096, .inr (.inl g3404))), (h, oX11 th aw ai ab ac hi re aP ta po en be de fa a5 sp av an ak x1 aW aC ag aT aN aF), (aw, .inl (cI, 2179, .inl fw)), (av, .inl (cI, 400, .inl g2)), (an, .inl (cI, 10, .inl g3)), (ak, .inl (cI, 10, .inl g4))] H := hP
        have hD : va_D A [(aW, .inl (cJ, 4096, .inr (.inl g3404))), (h, oX11 th aw ai ab ac hi re aP ta po en be de fa a5 sp av an ak x1 aW aC ag aT aN aF), (aw, .inl (cI, 2179, .inl fw)), (av, .inl (cI, 400, .inl g2)), (an, .inl (cI, 10, .inl g3)), (ak, .inl (cI, 10, .inl g4))] := hD
        have hl : lv_has ls 4 [(3, .int y3403), (2, .int r2305), (1, .int y2298), (0, .ref h)] := hl
        refine lv_iload_n hx hb dX11_allWays_54 rfl (lv_at hl 0 rfl) ?_
        refine lv_aload_n hx hb dX11_allWays_55 rfl (lv_at hl 3 rfl) ?_
        refine kpurei (wc := [(h, oX11 th aw ai ab ac hi re aP ta po en be de fa a5 sp av an ak x1 aW aC ag aT aN aF), (aw, .inl (cI, 2179, .inl fw))]) hP hD hS hA [1, 2] rfl (by decide) (fun hPc hDc hFc => va_runV (As := []) (rest := [.int y3403]) ⟨hx, hb, hml, hown, hts⟩ (r_shirts l D cI cJ cB cC h th aw ai ab ac hi re aP ta po en be de fa a5 sp av an ak x1 aW aC ag aT aN aF fw H.size H_fw_W) (cwV 0 hts gX11_allWays_X11_shirts rfl rfl rfl ⟨rfl, hdX11_shirts⟩ ⟨Nat.le_of_ble_eq_true rfl, Nat.le_of_ble_eq_true rfl⟩) ⟨kBlind, va_recv hK hPc (ci := 10) (q0 := 0) rfl rfl, fun U hU hW => ⟨rfl, by rw [hU], hN.warm hW, hE.pass hS hFc hW hU, by rw [hU]; exact hPc, va_K.moved hW.alike hK, hDc⟩⟩ rfl rfl hl.1 rfl (lv_room (Nat.le_of_ble_eq_true rfl)) dX11_allWays_56 ⟨Nat.le_of_ble_eq_true rfl, Nat.le_of_ble_eq_true rfl⟩) (fun r3406 u H locs hw hP hS => ?_)
        obtain ⟨k3407, k3408⟩ := hw
        obtain rfl : r7 = r3406 := k8.trans k3407.symm
        refine lv_icmp_ge (tgt := 116) hx hb dX11_allWays_59 (by decide) (fun c3409 => ?_) (fun c3409 => ?_)
        · skip
          exact hJ116 (g3404) _ _ _ ⟨hP.sub (ws' := [(aW, .inl (cJ, 4096, .inr (.inl g3404))), (h, oX11 th aw ai ab ac hi re aP ta po en be de fa a5 sp av an ak x1 aW aC ag aT aN aF), (aw, .inl (cI, 2179, .inl fw)), (av, .inl (cI, 400, .inl g2)), (an, .inl (cI, 10, .inl g3)), (ak, .inl (cI, 10, .inl g4))]) [0, 1, 2, 3, 4, 5] rfl, hD.sub (ws' := [(aW, .inl (cJ, 4096, .inr (.inl g3404))), (h, oX11 th aw ai ab ac hi re aP ta po en be de fa a5 sp av an ak x1 aW aC ag aT aN aF), (aw, .inl (cI, 2179, .inl fw)), (av, .inl (cI, 400, .inl g2)), (an, .inl (cI, 10, .inl g3)), (ak, .inl (cI, 10, .inl g4))]) [0, 1, 2, 3, 4, 5] (by decide) rfl, hS, lv_sub (l' := [(2, .int r2305), (1, .int y2298), (0, .ref h)]) hl [1, 2, 3] rfl⟩
        · skip
          have k3410 : Rg y3403 0 11 := rg_l1 (nleI c3409) hy3403 k9 (by decide)
          have k3411 : Rg r7 1 12 := rg_l2 (nleI c3409) hy3403 k9 (by decide)
          refine lv_iload_n hx hb dX11_allWays_62 rfl (lv_at hl 1 rfl) ?_
          refine lv_aload_n hx hb dX11_allWays_63 rfl (lv_at hl 3 rfl) ?_
          refine va_get (D := D) (ci := 10) (v := .int x1) (C := RX11) (T := TX11) (N := 26) hx hb hts iG_X11 hown hK hP 1 rfl rfl 19 (by decide) (hts _ w40_7) (fun _ h9 => h9) rfl dX11_allWays_64 ?_
          refine lv_icmp_ge (tgt := 116) hx hb dX11_allWays_67 (by decide) (fun c3412 => ?_) (fun c3412 => ?_)
          · skip
            exact hJ116 (g3404) _ _ _ ⟨hP.sub (ws' := [(aW, .inl (cJ, 4096, .inr (.inl g3404))), (h, oX11 th aw ai ab ac hi re aP ta po en be de fa a5 sp av an ak x1 aW aC ag aT aN aF), (aw, .inl (cI, 2179, .inl fw)), (av, .inl (cI, 400, .inl g2)), (an, .inl (cI, 10, .inl g3)), (ak, .inl (cI, 10, .inl g4))]) [0, 1, 2, 3, 4, 5] rfl, hD.sub (ws' := [(aW, .inl (cJ, 4096, .inr (.inl g3404))), (h, oX11 th aw ai ab ac hi re aP ta po en be de fa a5 sp av an ak x1 aW aC ag aT aN aF), (aw, .inl (cI, 2179, .inl fw)), (av, .inl (cI, 400, .inl g2)), (an, .inl (cI, 10, .inl g3)), (ak, .inl (cI, 10, .inl g4))]) [0, 1, 2, 3, 4, 5] (by decide) rfl, hS, lv_sub (l' := [(2, .int r2305), (1, .int y2298), (0, .ref h)]) hl [1, 2, 3] rfl⟩
          · skip
            have k3413 : Rg r2305 0 9 := rg_l1 (nleI c3412) k2874 k5 (by decide)
            have k3414 : Rg x1 1 10 := rg_l2 (nleI c3412) k2874 k5 (by decide)
            refine lv_aload_n hx hb dX11_allWays_70 rfl (lv_at hl 3 rfl) ?_
            refine va_get (D := D) (ci := 10) (v := .ref ak) (C := RX11) (T := TX11) (N := 26) hx hb hts iG_X11 hown hK hP 1 rfl rfl 18 (by decide) (hts _ w5_13) (fun _ h9 => h9) rfl dX11_allWays_71 ?_
            refine lv_iload_n hx hb dX11_allWays_74 rfl (lv_at hl 1 rfl) ?_
            refine va_iald hx hb hK hP 5 0 rfl rfl (rg_in k3413 (by decide)) dX11_allWays_75 ?_
            refine lv_topi (fun x3415 ex3415 => ?_)
            clear ex3415
            refine lv_iload_n hx hb dX11_allWays_76 rfl (lv_at hl 0 rfl) ?_
            refine kpurei (wc := []) hP hD hS hA [] rfl (by decide) (fun hPc hDc hFc => va_runS (As := [.int x3415, .int y3403]) (rest := []) ⟨hx, hb, hml, hown, hts⟩ (r_has l D cI cJ cB cC x3415 y3403 H.size) (va_cwS 2 hts gX11_allWays_X11_has rfl rfl rfl hdX11_has ⟨Nat.le_of_ble_eq_true rfl, Nat.le_of_ble_eq_true rfl⟩) ⟨kBlind, fun U hU hW => ⟨rfl, by rw [hU], hN.warm hW, hE.pass hS hFc hW hU, by rw [hU]; exact hPc, va_K.moved hW.alike hK, hDc⟩⟩ rfl rfl hl.1 rfl (lv_room (Nat.le_of_ble_eq_true rfl)) dX11_allWays_77 ⟨Nat.le_of_ble_eq_true rfl, Nat.le_of_ble_eq_true rfl⟩) (fun r3416 u H locs hw hP hS => ?_)
            have k3417 := hw
            refine k_join (hd := 110) (cells2 := 0) (slots2 := 0) (fun (g3435 : (Nat → Int64)) => []) (fun (g3435 : (Nat → Int64)) (H : Heap) (locs : List Loc) (ls : Array Slot) => va_P D vwCl [(aW, .inl (cJ, 4096, .inr (.inl g3435))), (h, oX11 th aw ai ab ac hi re aP ta po en be de fa a5 sp av an ak x1 aW aC ag aT aN aF), (aw, .inl (cI, 2179, .inl fw)), (av, .inl (cI, 400, .inl g2)), (an, .inl (cI, 10, .inl g3)), (ak, .inl (cI, 10, .inl g4))] H ∧ va_D A [(aW, .inl (cJ, 4096, .inr (.inl g3435))), (h, oX11 th aw ai ab ac hi re aP ta po en be de fa a5 sp av an ak x1 aW aC ag aT aN aF), (aw, .inl (cI, 2179, .inl fw)), (av, .inl (cI, 400, .inl g2)), (an, .inl (cI, 10, .inl g3)), (ak, .inl (cI, 10, .inl g4))] ∧ va_S A s.heap H locs ∧ lv_has ls 4 [(3, .int y3403), (2, .int r2305), (1, .int y2298), (0, .ref h)]) (fun u H locs ls hI => ?_) (fun hJ110 => ?_)
            · skip
              clear hP hD hS hl
              obtain ⟨g3435, rfl⟩ : ∃ z, z = u := ⟨_, rfl⟩
              obtain ⟨hP, hD, hS, hl⟩ := hI
              have hP : va_P D vwCl [(aW, .inl (cJ, 4096, .inr (.inl g3435))), (h, oX11 th aw ai ab ac hi re aP ta po en be de fa a5 sp av an ak x1 aW aC ag aT aN aF), (aw, .inl (cI, 2179, .inl fw)), (av, .inl (cI, 400, .inl g2)), (an, .inl (cI, 10, .inl g3)), (ak, .inl (cI, 10, .inl g4))] H := hP
              have hD : va_D A [(aW, .inl (cJ, 4096, .inr (.inl g3435))), (h, oX11 th aw ai ab ac hi re aP ta po en be de fa a5 sp av an ak x1 aW aC ag aT aN aF), (aw, .inl (cI, 2179, .inl fw)), (av, .inl (cI, 400, .inl g2)), (an, .inl (cI, 10, .inl g3)), (ak, .inl (cI, 10, .inl g4))] := hD
              have hl : lv_has ls 4 [(3, .int y3403), (2, .int r2305), (1, .int y2298), (0, .ref h)] := hl
              obtain ⟨x3436, ex3436⟩ : ∃ y : Int32, y = y3403 + 1 := ⟨_, rfl⟩
              refine lv_iinc (v := x3436) (lv' := [(3, .int x3436), (2, .int r2305), (1, .int y2298), (0, .ref h)]) hx hb dX11_allWays_110 hl (k := 0) rfl (by rw [ex3436]; rfl) (by decide) rfl (fun ls hl => ?_)
              have k3437 : Rg x3436 1 12 := rg_add ex3436 k3410 (rg_lit (n := 1) (by decide)) (by decide)
              refine lv_goto (tgt := 54) hx hb dX11_allWays_113 (by decide) ?_
              exact ih3405 (x3436, g3435) _ _ _ (by show (12 - (x3436).toInt).toNat < (12 - (y3403).toInt).toNat; exact mu_up ex3436 k3410 k3437 (by decide)) ⟨(rg_w k3437 (by decide)), hP.sub (ws' := [(aW, .inl (cJ, 4096, .inr (.inl g3435))), (h, oX11 th aw ai ab ac hi re aP ta po en be de fa a5 sp av an ak x1 aW aC ag aT aN aF), (aw, .inl (cI, 2179, .inl fw)), (av, .inl (cI, 400, .inl g2)), (an, .inl (cI, 10, .inl g3)), (ak, .inl (cI, 10, .inl g4))]) [0, 1, 2, 3, 4, 5] rfl, hD.sub (ws' := [(aW, .inl (cJ, 4096, .inr (.inl g3435))), (h, oX11 th aw ai ab ac hi re aP ta po en be de fa a5 sp av an ak x1 aW aC ag aT aN aF), (aw, .inl (cI, 2179, .inl fw)), (av, .inl (cI, 400, .inl g2)), (an, .inl (cI, 10, .inl g3)), (ak, .inl (cI, 10, .inl g4))]) [0, 1, 2, 3, 4, 5] (by decide) rfl, hS, lv_sub (l' := [(3, .int x3436), (2, .int r2305), (1, .int y2298), (0, .ref h)]) hl [0, 1, 2, 3] rfl⟩
            refine lv_if_eq (tgt := 110) hx hb dX11_allWays_80 (by decide) (fun c3438 => ?_) (fun c3438 => ?_)
            · skip
              have k3439 : Rg r3416 0 0 := rg_q1 (eqI c3438) k3417 (rg_lit (n := 0) (by decide)) (by decide)
              exact hJ110 (g3404) _ _ _ ⟨hP.sub (ws' := [(aW, .inl (cJ, 4096, .inr (.inl g3404))), (h, oX11 th aw ai ab ac hi re aP ta po en be de fa a5 sp av an ak x1 aW aC ag aT aN aF), (aw, .inl (cI, 2179, .inl fw)), (av, .inl (cI, 400, .inl g2)), (an, .inl (cI, 10, .inl g3)), (ak, .inl (cI, 10, .inl g4))]) [0, 1, 2, 3, 4, 5] rfl, hD.sub (ws' := [(aW, .inl (cJ, 4096, .inr (.inl g3404))), (h, oX11 th aw ai ab ac hi re aP ta po en be de fa a5 sp av an ak x1 aW aC ag aT aN aF), (aw, .inl (cI, 2179, .inl fw)), (av, .inl (cI, 400, .inl g2)), (an, .inl (cI, 10, .inl g3)), (ak, .inl (cI, 10, .inl g4))]) [0, 1, 2, 3, 4, 5] (by decide) rfl, hS, lv_sub (l' := [(3, .int y3403), (2, .int r2305), (1, .int y2298), (0, .ref h)]) hl [0, 1, 2, 3] rfl⟩
            · skip
              have k3440 : Rg r3416 1 1 := rg_n1 (neI c3438) k3417 (rg_lit (n := 0) (by decide)) (by decide)
              refine lv_iload_n hx hb dX11_allWays_83 rfl (lv_at hl 2 rfl) ?_
              refine lv_iload_n hx hb dX11_allWays_84 rfl (lv_at hl 0 rfl) ?_
              refine kpurei (wc := []) hP hD hS hA [] rfl (by decide) (fun hPc hDc hFc => va_runS (As := [.int y2298, .int y3403]) (rest := []) ⟨hx, hb, hml, hown, hts⟩ (r_has l D cI cJ cB cC y2298 y3403 H.size) (va_cwS 2 hts gX11_allWays_X11_has rfl rfl rfl hdX11_has ⟨Nat.le_of_ble_eq_true rfl, Nat.le_of_ble_eq_true rfl⟩) ⟨kBlind, fun U hU hW => ⟨rfl, by rw [hU], hN.warm hW, hE.pass hS hFc hW hU, by rw [hU]; exact hPc, va_K.moved hW.alike hK, hDc⟩⟩ rfl rfl hl.1 rfl (lv_room (Nat.le_of_ble_eq_true rfl)) dX11_allWays_85 ⟨Nat.le_of_ble_eq_true rfl, Nat.le_of_ble_eq_true rfl⟩) (fun r3441 u H locs hw hP hS => ?_)
              have k3442 := hw
              refine lv_if_ne (tgt := 110) hx hb dX11_allWays_88 (by decide) (fun c3443 => ?_) (fun c3443 => ?_)
              · skip
                have k3444 : Rg r3441 1 1 := rg_n1 (neI c3443) k3442 (rg_lit (n := 0) (by decide)) (by decide)
                exact hJ110 (g3404) _ _ _ ⟨hP.sub (ws' := [(aW, .inl (cJ, 4096, .inr (.inl g3404))), (h, oX11 th aw ai ab ac hi re aP ta po en be de fa a5 sp av an ak x1 aW aC ag aT aN aF), (aw, .inl (cI, 2179, .inl fw)), (av, .inl (cI, 400, .inl g2)), (an, .inl (cI, 10, .inl g3)), (ak, .inl (cI, 10, .inl g4))]) [0, 1, 2, 3, 4, 5] rfl, hD.sub (ws' := [(aW, .inl (cJ, 4096, .inr (.inl g3404))), (h, oX11 th aw ai ab ac hi re aP ta po en be de fa a5 sp av an ak x1 aW aC ag aT aN aF), (aw, .inl (cI, 2179, .inl fw)), (av, .inl (cI, 400, .inl g2)), (an, .inl (cI, 10, .inl g3)), (ak, .inl (cI, 10, .inl g4))]) [0, 1, 2, 3, 4, 5] (by decide) rfl, hS, lv_sub (l' := [(3, .int y3403), (2, .int r2305), (1, .int y2298), (0, .ref h)]) hl [0, 1, 2, 3] rfl⟩
              · skip
                have k3445 : Rg r3441 0 0 := rg_q1 (eqI c3443) k3442 (rg_lit (n := 0) (by decide)) (by decide)
                refine lv_aload_n hx hb dX11_allWays_91 rfl (lv_at hl 3 rfl) ?_
                refine va_get (D := D) (ci := 10) (v := .ref aW) (C := RX11) (T := TX11) (N := 26) hx hb hts iG_X11 hown hK hP 1 rfl rfl 20 (by decide) (hts _ w5_14) (fun _ h9 => h9) rfl dX11_allWays_92 ?_
                refine lv_iload_n hx hb dX11_allWays_95 rfl (lv_at hl 2 rfl) ?_
                refine lv_dup2_11 hx hb dX11_allWays_96 rfl rfl ?_
                refine va_lald hx hb hK hP 0 1 rfl rfl (rg_in k2304 (by decide)) dX11_allWays_97 ?_
                refine lv_topl (fun x3446 ex3446 => ?_)
                clear ex3446
                refine lv_aload_n hx hb dX11_allWays_98 rfl (lv_at hl 3 rfl) ?_
                refine va_get (D := D) (ci := 10) (v := .ref aW) (C := RX11) (T := TX11) (N := 26) hx hb hts iG_X11 hown hK hP 1 rfl rfl 20 (by decide) (hts _ w5_14) (fun _ h9 => h9) rfl dX11_allWays_99 ?_
                refine lv_iload_n hx hb dX11_allWays_102 rfl (lv_at hl 2 rfl) ?_
                refine lv_iconst (v := 1) hx hb dX11_allWays_103 (by decide) ?_
                refine lv_iload_n hx hb dX11_allWays_104 rfl (lv_at hl 0 rfl) ?_
                refine lv_ishl hx hb dX11_allWays_105 ?_
                refine lv_topi (fun x3447 ex3447 => ?_)
                have k3448 : Rg x3447 1 2048 := rg_shl1 11 ex3447 k3410 (by decide)
                clear ex3447
                refine lv_ior hx hb dX11_allWays_106 ?_
                refine lv_topi (fun x3449 ex3449 => ?_)
                have k3450 : Rg x3449 0 4095 := rg_or 12 ex3449 k2304 k3448 (by decide)
                clear ex3449
                refine va_lald hx hb hK hP 0 1 rfl rfl (rg_in k3450 (by decide)) dX11_allWays_107 ?_
                refine lv_topl (fun x3451 ex3451 => ?_)
                clear ex3451
                refine lv_ladd hx hb dX11_allWays_108 ?_
                refine lv_topl (fun x3452 ex3452 => ?_)
                clear ex3452
                refine va_last hx hb hK hP hD hS 0 1 rfl rfl (rg_in k2304 (by decide)) dX11_allWays_109 (fun H locs hP hD hS => ?_)
                have hP : va_P D vwCl [(aW, .inl (cJ, 4096, .inr (.inl (vp_updL g3404 y2298.toNatClampNeg x3452)))), (h, oX11 th aw ai ab ac hi re aP ta po en be de fa a5 sp av an ak x1 aW aC ag aT aN aF), (aw, .inl (cI, 2179, .inl fw)), (av, .inl (cI, 400, .inl g2)), (an, .inl (cI, 10, .inl g3)), (ak, .inl (cI, 10, .inl g4))] H := hP
                have hD : va_D A [(aW, .inl (cJ, 4096, .inr (.inl (vp_updL g3404 y2298.toNatClampNeg x3452)))), (h, oX11 th aw ai ab ac hi re aP ta po en be de fa a5 sp av an ak x1 aW aC ag aT aN aF), (aw, .inl (cI, 2179, .inl fw)), (av, .inl (cI, 400, .inl g2)), (an, .inl (cI, 10, .inl g3)), (ak, .inl (cI, 10, .inl g4))] := hD
                generalize hge : (vp_updL g3404 y2298.toNatClampNeg x3452) = g3453 at hP hD
                clear hge
                exact hJ110 (g3453) _ _ _ ⟨hP.sub (ws' := [(aW, .inl (cJ, 4096, .inr (.inl g3453))), (h, oX11 th aw ai ab ac hi re aP ta po en be de fa a5 sp av an ak x1 aW aC ag aT aN aF), (aw, .inl (cI, 2179, .inl fw)), (av, .inl (cI, 400, .inl g2)), (an, .inl (cI, 10, .inl g3)), (ak, .inl (cI, 10, .inl g4))]) [0, 1, 2, 3, 4, 5] rfl, hD.sub (ws' := [(aW, .inl (cJ, 4096, .inr (.inl g3453))), (h, oX11 th aw ai ab ac hi re aP ta po en be de fa a5 sp av an ak x1 aW aC ag aT aN aF), (aw, .inl (cI, 2179, .inl fw)), (av, .inl (cI, 400, .inl g2)), (an, .inl (cI, 10, .inl g3)), (ak, .inl (cI, 10, .inl g4))]) [0, 1, 2, 3, 4, 5] (by decide) rfl, hS, lv_sub (l' := [(3, .int y3403), (2, .int r2305), (1, .int y2298), (0, .ref h)]) hl [0, 1, 2, 3] rfl⟩
      refine lv_icmp_ne (tgt := 50) hx hb dX11_allWays_43 (by decide) (fun c3454 => ?_) (fun c3454 => ?_)
      · skip
        refine lv_lconst (v := 0) hx hb dX11_allWays_50 (by decide) ?_
        exact hJ51 ((0 : Int64), y2298) _ _ _ ⟨k2304, hP.sub (ws' := [(aW, .inl (cJ, 4096, .inr (.inl g2299))), (h, oX11 th aw ai ab ac hi re aP ta po en be de fa a5 sp av an ak x1 aW aC ag aT aN aF), (aw, .inl (cI, 2179, .inl fw)), (av, .inl (cI, 400, .inl g2)), (an, .inl (cI, 10, .inl g3)), (ak, .inl (cI, 10, .inl g4))]) [0, 1, 2, 3, 4, 5] rfl, hD.sub (ws' := [(aW, .inl (cJ, 4096, .inr (.inl g2299))), (h, oX11 th aw ai ab ac hi re aP ta po en be de fa a5 sp av an ak x1 aW aC ag aT aN aF), (aw, .inl (cI, 2179, .inl fw)), (av, .inl (cI, 400, .inl g2)), (an, .inl (cI, 10, .inl g3)), (ak, .inl (cI, 10, .inl g4))]) [0, 1, 2, 3, 4, 5] (by decide) rfl, hS, lv_sub (l' := [(2, .int r2305), (1, .int y2298), (0, .ref h)]) hl [0, 1, 2] rfl⟩
      · skip
        refine lv_lconst (v := 1) hx hb dX11_allWays_46 (by decide) ?_
        refine lv_goto (tgt := 51) hx hb dX11_allWays_47 (by decide) ?_
        exact hJ51 ((1 : Int64), y2298) _ _ _ ⟨k2304, hP.sub (ws' := [(aW, .inl (cJ, 4096, .inr (.inl g2299))), (h, oX11 th aw ai ab ac hi re aP ta po en be de fa a5 sp av an ak x1 aW aC ag aT aN aF), (aw, .inl (cI, 2179, .inl fw)), (av, .inl (cI, 400, .inl g2)), (an, .inl (cI, 10, .inl g3)), (ak, .inl (cI, 10, .inl g4))]) [0, 1, 2, 3, 4, 5] rfl, hD.sub (ws' := [(aW, .inl (cJ, 4096, .inr (.inl g2299))), (h, oX11 th aw ai ab ac hi re aP ta po en be de fa a5 sp av an ak x1 aW aC ag aT aN aF), (aw, .inl (cI, 2179, .inl fw)), (av, .inl (cI, 400, .inl g2)), (an, .inl (cI, 10, .inl g3)), (ak, .inl (cI, 10, .inl g4))]) [0, 1, 2, 3, 4, 5] (by decide) rfl, hS, lv_sub (l' := [(2, .int r2305), (1, .int y2298), (0, .ref h)]) hl [0, 1, 2] rfl⟩
    · skip
      have k3455 : Rg r2305 1 63 := rg_l2 (nleI c2873) k5 k2306 (by decide)
      refine lv_goto (tgt := 116) hx hb dX11_allWays_30 (by decide) ?_
      exact hJ116 (g2299) _ _ _ ⟨hP.sub (ws' := [(aW, .inl (cJ, 4096, .inr (.inl g2299))), (h, oX11 th aw ai ab ac hi re aP ta po en be de fa a5 sp av an ak x1 aW aC ag aT aN aF), (aw, .inl (cI, 2179, .inl fw)), (av, .inl (cI, 400, .inl g2)), (an, .inl (cI, 10, .inl g3)), (ak, .inl (cI, 10, .inl g4))]) [0, 1, 2, 3, 4, 5] rfl, hD.sub (ws' := [(aW, .inl (cJ, 4096, .inr (.inl g2299))), (h, oX11 th aw ai ab ac hi re aP ta po en be de fa a5 sp av an ak x1 aW aC ag aT aN aF), (aw, .inl (cI, 2179, .inl fw)), (av, .inl (cI, 400, .inl g2)), (an, .inl (cI, 10, .inl g3)), (ak, .inl (cI, 10, .inl g4))]) [0, 1, 2, 3, 4, 5] (by decide) rfl, hS, lv_sub (l' := [(2, .int r2305), (1, .int y2298), (0, .ref h)]) hl [0, 1, 2] rfl⟩

def kwX11_ways : List Cond := .code yX11_ways cX11_ways 1 (some .long) :: kG
theorem hdX11_ways : yX11_ways.cls ≠ "java/lang/invoke/MethodHandle" ∧ yX11_ways.cls ≠ "java/lang/invoke/VarHandle" ∧ (parseMethodDescriptor yX11_ways.desc).map (fun d => d.parameters.length) = some 0 := by decide +kernel
theorem gX11_ways_X11_allWays : GoodIn kG (wsV RX11 330 RX11 yX11_allWays kwX11_allWays) := gK w40_3 (gK w40_4 (gK w40_5 (gK w0_5 (gK w40_6 gGG))))
theorem dX11_ways_0 : decode cX11_ways 0 = .ok (.aload_n 0, 1) := by decide +kernel
theorem dX11_ways_1 : decode cX11_ways 1 = .ok (.iconst 0, 1) := by decide +kernel
theorem dX11_ways_2 : decode cX11_ways 2 = .ok (.putfield 3, 3) := by decide +kernel
theorem dX11_ways_5 : decode cX11_ways 5 = .ok (.aload_n 0, 1) := by decide +kernel
theorem dX11_ways_6 : decode cX11_ways 6 = .ok (.invokevirtual 330, 3) := by decide +kernel
theorem dX11_ways_9 : decode cX11_ways 9 = .ok (.lreturn, 1) := by decide +kernel
set_option maxHeartbeats 4000000 in
set_option maxRecDepth 100000 in
/-- reference: ways -/
theorem r_ways (l : Launch) (D : va_G) (cI cJ cB cC : ClassId) (h : Nat) (th : Int32) (aw : Nat) (ai : Nat) (ab : Nat) (ac : Nat) (hi : Int32) (re : Int32) (aP : Nat) (ta : Int32) (po : Int32) (en : Int32) (be : Int32) (de : Int32) (fa : Int32) (a5 : Nat) (sp : Int32) (av : Nat) (an : Nat) (ak : Nat) (ne : Int32) (aW : Nat) (aC : Nat) (ag : Nat) (aT : Nat) (aN : Nat) (aF : Nat) (fw : Nat → Int32) (fv : Nat → Int32) (fn : Nat → Int32) (fk : Nat → Int32) (fW : Nat → Int64) (sz : Nat) (H_fw_W : wW fw) (H_fw_L : wL fw) (H_fn_N : wN fn) : Met l yX11_ways kwX11_ways ({ frames := 9, cells := 0, slots := 0, locals := 211 } : Room) (kPre D (kT cI cJ cB cC) sz [(h, oX11 th aw ai ab ac hi re aP ta po en be de fa a5 sp av an ak ne aW aC ag aT aN aF), (aw, .inl (cI, 2179, .inl fw)), (av, .inl (cI, 400, .inl fv)), (an, .inl (cI, 10, .inl fn)), (ak, .inl (cI, 10, .inl fk)), (aW, .inl (cJ, 4096, .inr (.inl fW)))] [.ref h]) (va_Ql (fun (r : Int64) (uu : Int32 × (Nat → Int32) × (Nat → Int32) × (Nat → Int32) × (Nat → Int64)) => match uu with | (n0_, f1_, f2_, f3_, f4_) => Rg n0_ 0 10 ∧ wN f2_) (fun (uu : Int32 × (Nat → Int32) × (Nat → Int32) × (Nat → Int32) × (Nat → Int64)) (t : State) => match uu with | (n0_, f1_, f2_, f3_, f4_) => kB D (kT cI cJ cB cC) (va_A [(h, oX11 th aw ai ab ac hi re aP ta po en be de fa a5 sp av an ak ne aW aC ag aT aN aF), (aw, .inl (cI, 2179, .inl fw)), (av, .inl (cI, 400, .inl fv)), (an, .inl (cI, 10, .inl fn)), (ak, .inl (cI, 10, .inl fk)), (aW, .inl (cJ, 4096, .inr (.inl fW)))] sz) [(h, oX11 0 aw ai ab ac hi re aP ta po en be de fa a5 sp av an ak n0_ aW aC ag aT aN aF), (aw, .inl (cI, 2179, .inl fw)), (av, .inl (cI, 400, .inl f1_)), (an, .inl (cI, 10, .inl f2_)), (ak, .inl (cI, 10, .inl f3_)), (aW, .inl (cJ, 4096, .inr (.inl f4_)))] t) (va_A [(h, oX11 th aw ai ab ac hi re aP ta po en be de fa a5 sp av an ak ne aW aC ag aT aN aF), (aw, .inl (cI, 2179, .inl fw)), (av, .inl (cI, 400, .inl fv)), (an, .inl (cI, 10, .inl fn)), (ak, .inl (cI, 10, .inl fk)), (aW, .inl (cJ, 4096, .inr (.inl fW)))] sz)) 0 0 (va_A [(h, oX11 th aw ai ab ac hi re aP ta po en be de fa a5 sp av an ak ne aW aC ag aT aN aF), (aw, .inl (cI, 2179, .inl fw)), (av, .inl (cI, 400, .inl fv)), (an, .inl (cI, 10, .inl fn)), (ak, .inl (cI, 10, .inl fk)), (aW, .inl (cJ, 4096, .inr (.inl fW)))] sz) := by
  refine Met.ofW (cc := cX11_ways) (maxL := 1) (ret := (some .long)) (by decide) rfl ?_
  intro p e s m args below meth c s₁ B hml hv
  obtain ⟨rfl, hsz, hN, hE, hP, hK, hD0⟩ := hv
  have hx := B.exec
  have hb := B.bytes
  have hr := B.returns
  have hts := fun (w : Cond) (h : w ∈ kG) => atoms_spec (ws := kwX11_ways) B.pre w (List.mem_cons_of_mem _ h)
  have hown : s.vm.findClass RX11 = some m.cls := findClass_of_methodNamed B.named
  subst hsz
  have hD := hD0.self (sz := s.heap.size)
  generalize hAe : va_A [(h, oX11 th aw ai ab ac hi re aP ta po en be de fa a5 sp av an ak ne aW aC ag aT aN aF), (aw, .inl (cI, 2179, .inl fw)), (av, .inl (cI, 400, .inl fv)), (an, .inl (cI, 10, .inl fn)), (ak, .inl (cI, 10, .inl fk)), (aW, .inl (cJ, 4096, .inr (.inl fW)))] s.heap.size = A at hD hE ⊢
  have hA : ∀ q : Nat, s.heap.size ≤ q → A q := fun q h => by rw [← hAe]; exact Or.inr h
  have hl := lv_entry ([.ref h]) (n := 1) (Nat.le_of_ble_eq_true rfl)
  rw [lg_entry_eq]
  generalize (lg_sl ([.ref h]) ++ List.replicate (1 - (lg_sl ([.ref h])).length) Slot.unset).toArray = ls at hl ⊢
  have hl : lv_has ls 1 [(0, .ref h)] := hl
  obtain ⟨H, hH0⟩ : ∃ H, H = s.heap := ⟨_, rfl⟩
  have hS : va_S A s.heap H [] := by rw [hH0]; exact va_S.rf
  have hP : va_P D vwCl [(h, oX11 th aw ai ab ac hi re aP ta po en be de fa a5 sp av an ak ne aW aC ag aT aN aF), (aw, .inl (cI, 2179, .inl fw)), (av, .inl (cI, 400, .inl fv)), (an, .inl (cI, 10, .inl fn)), (ak, .inl (cI, 10, .inl fk)), (aW, .inl (cJ, 4096, .inr (.inl fW)))] H := by rw [hH0]; exact hP
  refine kHeap hH0 ?_
  clear hH0
  refine lv_aload_n hx hb dX11_ways_0 rfl (lv_at hl 0 rfl) ?_
  refine lv_iconst (v := 0) hx hb dX11_ways_1 (by decide) ?_
  refine va_put (D := D) (ci := 10) (v := .int 0) (ty := .int) (C := RX11) (T := TX11) (N := 26) hx hb hts iG_X11 tyX11 tyX11_ok nmX11 hown hK hP hD hS 0 rfl rfl 0 (by decide) (hts _ w6_8) (fun _ h9 => h9) rfl (by decide +kernel) rfl rfl (Nat.le_of_ble_eq_true rfl) dX11_ways_2 (fun H locs hP hD hS => ?_)
  have hP : va_P D vwCl [(h, oX11 0 aw ai ab ac hi re aP ta po en be de fa a5 sp av an ak ne aW aC ag aT aN aF), (aw, .inl (cI, 2179, .inl fw)), (av, .inl (cI, 400, .inl fv)), (an, .inl (cI, 10, .inl fn)), (ak, .inl (cI, 10, .inl fk)), (aW, .inl (cJ, 4096, .inr (.inl fW)))] H := hP
  have hD : va_D A [(h, oX11 0 aw ai ab ac hi re aP ta po en be de fa a5 sp av an ak ne aW aC ag aT aN aF), (aw, .inl (cI, 2179, .inl fw)), (av, .inl (cI, 400, .inl fv)), (an, .inl (cI, 10, .inl fn)), (ak, .inl (cI, 10, .inl fk)), (aW, .inl (cJ, 4096, .inr (.inl fW)))] := hD
  refine lv_aload_n hx hb dX11_ways_5 rfl (lv_at hl 0 rfl) ?_
  refine kcalll (wc := [(h, oX11 0 aw ai ab ac hi re aP ta po en be de fa a5 sp av an ak ne aW aC ag aT aN aF), (aw, .inl (cI, 2179, .inl fw)), (av, .inl (cI, 400, .inl fv)), (an, .inl (cI, 10, .inl fn)), (ak, .inl (cI, 10, .inl fk)), (aW, .inl (cJ, 4096, .inr (.inl fW)))]) (wr := []) hP hD hS hA [0, 1, 2, 3, 4, 5] [] rfl rfl (by decide) (by decide) (by decide) (fun hPc hDc hFc => va_runV (As := []) (rest := []) ⟨hx, hb, hml, hown, hts⟩ (r_allWays l D cI cJ cB cC h 0 aw ai ab ac hi re aP ta po en be de fa a5 sp av an ak ne aW aC ag aT aN aF fw fv fn fk fW H.size H_fw_W H_fw_L H_fn_N) (cwV 0 hts gX11_ways_X11_allWays rfl rfl rfl ⟨rfl, hdX11_allWays⟩ ⟨Nat.le_of_ble_eq_true rfl, Nat.le_of_ble_eq_true rfl⟩) ⟨kBlind, va_recv hK hPc (ci := 10) (q0 := 0) rfl rfl, fun U hU hW => ⟨rfl, by rw [hU], hN.warm hW, hE.pass hS hFc hW hU, by rw [hU]; exact hPc, va_K.moved hW.alike hK, hDc⟩⟩ rfl rfl hl.1 rfl (lv_room (Nat.le_of_ble_eq_true rfl)) dX11_ways_6 ⟨Nat.le_of_ble_eq_true rfl, Nat.le_of_ble_eq_true rfl⟩) (fun r1 u H locs hw hP hD hS => ?_)
  obtain ⟨x2, g3, g4, g5, g6⟩ := u
  have hP : va_P D vwCl [(h, oX11 0 aw ai ab ac hi re aP ta po en be de fa a5 sp av an ak x2 aW aC ag aT aN aF), (aw, .inl (cI, 2179, .inl fw)), (av, .inl (cI, 400, .inl g3)), (an, .inl (cI, 10, .inl g4)), (ak, .inl (cI, 10, .inl g5)), (aW, .inl (cJ, 4096, .inr (.inl g6)))] H := hP
  have hD : va_D A [(h, oX11 0 aw ai ab ac hi re aP ta po en be de fa a5 sp av an ak x2 aW aC ag aT aN aF), (aw, .inl (cI, 2179, .inl fw)), (av, .inl (cI, 400, .inl g3)), (an, .inl (cI, 10, .inl g4)), (ak, .inl (cI, 10, .inl g5)), (aW, .inl (cJ, 4096, .inr (.inl g6)))] := hD
  obtain ⟨k7, k8⟩ := hw
  have hP9 := hP.sub (ws' := [(h, oX11 0 aw ai ab ac hi re aP ta po en be de fa a5 sp av an ak x2 aW aC ag aT aN aF), (aw, .inl (cI, 2179, .inl fw)), (av, .inl (cI, 400, .inl g3)), (an, .inl (cI, 10, .inl g4)), (ak, .inl (cI, 10, .inl g5)), (aW, .inl (cJ, 4096, .inr (.inl g6)))]) [0, 1, 2, 3, 4, 5] rfl
  have hD9 := hD.sub (ws' := [(h, oX11 0 aw ai ab ac hi re aP ta po en be de fa a5 sp av an ak x2 aW aC ag aT aN aF), (aw, .inl (cI, 2179, .inl fw)), (av, .inl (cI, 400, .inl g3)), (an, .inl (cI, 10, .inl g4)), (ak, .inl (cI, 10, .inl g5)), (aW, .inl (cJ, 4096, .inr (.inl g6)))]) [0, 1, 2, 3, 4, 5] (by decide) rfl
  exact W.lret (v := r1) hx hb hr (fun t ht hW => ⟨⟨r1, (x2, g3, g4, g5, g6), rfl, ⟨k7, k8⟩, by rw [ht]; exact hP9, va_K.moved hW.alike hK, hD9⟩, hS.F ht⟩) hS.2.2 dX11_ways_9

def kwX11_leastCost : List Cond := .code yX11_leastCost cX11_leastCost 4 (some .int) :: kG
theorem hdX11_leastCost : yX11_leastCost.cls ≠ "java/lang/invoke/MethodHandle" ∧ yX11_leastCost.cls ≠ "java/lang/invoke/VarHandle" ∧ (parseMethodDescriptor yX11_leastCost.desc).map (fun d => d.parameters.length) = some 0 := by decide +kernel
theorem gX11_leastCost_J6_bitCount_0f7a4 : GoodIn kG (va_wsS RX11 325 yJ6_bitCount_0f7a4 kwJ6_bitCount_0f7a4) := gK w40_16 (gK w39_12 (gK w39_13 (gK w39_14 gGG)))
theorem gX11_leastCost_X11_costOf : GoodIn kG (wsV RX11 289 RX11 yX11_costOf kwX11_costOf) := gK w31_16 (gK w31_17 (gK w31_18 (gK w0_5 (gK w31_19 gGG))))
theorem gX11_leastCost_X11_has : GoodIn kG (va_wsS RX11 310 yX11_has kwX11_has) := gK w37_11 (gK w37_12 (gK w0_5 (gK w37_13 gGG)))
theorem gX11_leastCost_X11_looks : GoodIn kG (wsV RX11 322 RX11 yX11_looks kwX11_looks) := gK w40_8 (gK w40_9 (gK w40_10 (gK w0_5 (gK w40_11 gGG))))
theorem gX11_leastCost_X11_shirts : GoodIn kG (wsV RX11 79 RX11 yX11_shirts kwX11_shirts) := gK w20_17 (gK w20_18 (gK w20_19 (gK w0_5 (gK w20_20 gGG))))
theorem dX11_leastCost_0 : decode cX11_leastCost 0 = .ok (.aload_n 0, 1) := by decide +kernel
theorem dX11_leastCost_1 : decode cX11_leastCost 1 = .ok (.invokevirtual 322, 3) := by decide +kernel
theorem dX11_leastCost_4 : decode cX11_leastCost 4 = .ok (.iconst 1, 1) := by decide +kernel
theorem dX11_leastCost_5 : decode cX11_leastCost 5 = .ok (.aload_n 0, 1) := by decide +kernel
theorem dX11_leastCost_6 : decode cX11_leastCost 6 = .ok (.invokevirtual 79, 3) := by decide +kernel
theorem dX11_leastCost_9 : decode cX11_leastCost 9 = .ok (.ishl, 1) := by decide +kernel
theorem dX11_leastCost_10 : decode cX11_leastCost 10 = .ok (.iconst 1, 1) := by decide +kernel
theorem dX11_leastCost_11 : decode cX11_leastCost 11 = .ok (.isub, 1) := by decide +kernel
theorem dX11_leastCost_12 : decode cX11_leastCost 12 = .ok (.istore_n 1, 1) := by decide +kernel
theorem dX11_leastCost_13 : decode cX11_leastCost 13 = .ok (.iload_n 1, 1) := by decide +kernel
theorem dX11_leastCost_14 : decode cX11_leastCost 14 = .ok (.ifCond .lt 128, 3) := by decide +kernel
theorem dX11_leastCost_17 : decode cX11_leastCost 17 = .ok (.iload_n 1, 1) := by decide +kernel
theorem dX11_leastCost_18 : decode cX11_leastCost 18 = .ok (.invokestatic 325, 3) := by decide +kernel
theorem dX11_leastCost_21 : decode cX11_leastCost 21 = .ok (.istore_n 2, 1) := by decide +kernel
theorem dX11_leastCost_22 : decode cX11_leastCost 22 = .ok (.iload_n 2, 1) := by decide +kernel
theorem dX11_leastCost_23 : decode cX11_leastCost 23 = .ok (.aload_n 0, 1) := by decide +kernel
theorem dX11_leastCost_24 : decode cX11_leastCost 24 = .ok (.getfield 316, 3) := by decide +kernel
theorem dX11_leastCost_27 : decode cX11_leastCost 27 = .ok (.if_icmp .le 6, 3) := by decide +kernel
theorem dX11_leastCost_30 : decode cX11_leastCost 30 = .ok (.goto 106, 3) := by decide +kernel
theorem dX11_leastCost_33 : decode cX11_leastCost 33 = .ok (.aload_n 0, 1) := by decide +kernel
theorem dX11_leastCost_34 : decode cX11_leastCost 34 = .ok (.getfield 49, 3) := by decide +kernel
theorem dX11_leastCost_37 : decode cX11_leastCost 37 = .ok (.iload_n 1, 1) := by decide +kernel
theorem dX11_leastCost_38 : decode cX11_leastCost 38 = .ok (.iload_n 2, 1) := by decide +kernel
theorem dX11_leastCost_39 : decode cX11_leastCost 39 = .ok (.aload_n 0, 1) := by decide +kernel
theorem dX11_leastCost_40 : decode cX11_leastCost 40 = .ok (.getfield 316, 3) := by decide +kernel
theorem dX11_leastCost_43 : decode cX11_leastCost 43 = .ok (.if_icmp .ne 7, 3) := by decide +kernel
theorem dX11_leastCost_46 : decode cX11_leastCost 46 = .ok (.iconst 0, 1) := by decide +kernel
theorem dX11_leastCost_47 : decode cX11_leastCost 47 = .ok (.goto 6, 3) := by decide +kernel
theorem dX11_leastCost_50 : decode cX11_leastCost 50 = .ok (.ldc_w 334, 3) := by decide +kernel
theorem dX11_leastCost_53 : decode cX11_leastCost 53 = .ok (.iastore, 1) := by decide +kernel
theorem dX11_leastCost_54 : decode cX11_leastCost 54 = .ok (.iconst 0, 1) := by decide +kernel
theorem dX11_leastCost_55 : decode cX11_leastCost 55 = .ok (.istore_n 3, 1) := by decide +kernel
theorem dX11_leastCost_56 : decode cX11_leastCost 56 = .ok (.iload_n 3, 1) := by decide +kernel
theorem dX11_leastCost_57 : decode cX11_leastCost 57 = .ok (.aload_n 0, 1) := by decide +kernel
theorem dX11_leastCost_58 : decode cX11_leastCost 58 = .ok (.invokevirtual 79, 3) := by decide +kernel
theorem dX11_leastCost_61 : decode cX11_leastCost 61 = .ok (.if_icmp .ge 75, 3) := by decide +kernel
theorem dX11_leastCost_64 : decode cX11_leastCost 64 = .ok (.iload_n 2, 1) := by decide +kernel
theorem dX11_leastCost_65 : decode cX11_leastCost 65 = .ok (.aload_n 0, 1) := by decide +kernel
theorem dX11_leastCost_66 : decode cX11_leastCost 66 = .ok (.getfield 316, 3) := by decide +kernel
theorem dX11_leastCost_69 : decode cX11_leastCost 69 = .ok (.if_icmp .ge 67, 3) := by decide +kernel
theorem dX11_leastCost_72 : decode cX11_leastCost 72 = .ok (.aload_n 0, 1) := by decide +kernel
theorem dX11_leastCost_73 : decode cX11_leastCost 73 = .ok (.getfield 42, 3) := by decide +kernel
theorem dX11_leastCost_76 : decode cX11_leastCost 76 = .ok (.iload_n 2, 1) := by decide +kernel
theorem dX11_leastCost_77 : decode cX11_leastCost 77 = .ok (.iaload, 1) := by decide +kernel
theorem dX11_leastCost_78 : decode cX11_leastCost 78 = .ok (.iload_n 3, 1) := by decide +kernel
theorem dX11_leastCost_79 : decode cX11_leastCost 79 = .ok (.invokestatic 310, 3) := by decide +kernel
theorem dX11_leastCost_82 : decode cX11_leastCost 82 = .ok (.ifCond .eq 48, 3) := by decide +kernel
theorem dX11_leastCost_85 : decode cX11_leastCost 85 = .ok (.iload_n 1, 1) := by decide +kernel
theorem dX11_leastCost_86 : decode cX11_leastCost 86 = .ok (.iload_n 3, 1) := by decide +kernel
theorem dX11_leastCost_87 : decode cX11_leastCost 87 = .ok (.invokestatic 310, 3) := by decide +kernel
theorem dX11_leastCost_90 : decode cX11_leastCost 90 = .ok (.ifCond .ne 40, 3) := by decide +kernel
theorem dX11_leastCost_93 : decode cX11_leastCost 93 = .ok (.aload_n 0, 1) := by decide +kernel
theorem dX11_leastCost_94 : decode cX11_leastCost 94 = .ok (.getfield 49, 3) := by decide +kernel
theorem dX11_leastCost_97 : decode cX11_leastCost 97 = .ok (.iload_n 1, 1) := by decide +kernel
theorem dX11_leastCost_98 : decode cX11_leastCost 98 = .ok (.aload_n 0, 1) := by decide +kernel
theorem dX11_leastCost_99 : decode cX11_leastCost 99 = .ok (.getfield 49, 3) := by decide +kernel
theorem dX11_leastCost_102 : decode cX11_leastCost 102 = .ok (.iload_n 1, 1) := by decide +kernel
theorem dX11_leastCost_103 : decode cX11_leastCost 103 = .ok (.iaload, 1) := by decide +kernel
theorem dX11_leastCost_104 : decode cX11_leastCost 104 = .ok (.aload_n 0, 1) := by decide +kernel
theorem dX11_leastCost_105 : decode cX11_leastCost 105 = .ok (.aload_n 0, 1) := by decide +kernel
theorem dX11_leastCost_106 : decode cX11_leastCost 106 = .ok (.getfield 39, 3) := by decide +kernel
theorem dX11_leastCost_109 : decode cX11_leastCost 109 = .ok (.iload_n 2, 1) := by decide +kernel
theorem dX11_leastCost_110 : decode cX11_leastCost 110 = .ok (.iaload, 1) := by decide +kernel
theorem dX11_leastCost_111 : decode cX11_leastCost 111 = .ok (.iload_n 3, 1) := by decide +kernel
theorem dX11_leastCost_112 : decode cX11_leastCost 112 = .ok (.invokevirtual 289, 3) := by decide +kernel
theorem dX11_leastCost_115 : decode cX11_leastCost 115 = .ok (.aload_n 0, 1) := by decide +kernel
theorem dX11_leastCost_116 : decode cX11_leastCost 116 = .ok (.getfield 49, 3) := by decide +kernel
theorem dX11_leastCost_119 : decode cX11_leastCost 119 = .ok (.iload_n 1, 1) := by decide +kernel
theorem dX11_leastCost_120 : decode cX11_leastCost 120 = .ok (.iconst 1, 1) := by decide +kernel
theorem dX11_leastCost_121 : decode cX11_leastCost 121 = .ok (.iload_n 3, 1) := by decide +kernel
theorem dX11_leastCost_122 : decode cX11_leastCost 122 = .ok (.ishl, 1) := by decide +kernel
theorem dX11_leastCost_123 : decode cX11_leastCost 123 = .ok (.ior, 1) := by decide +kernel
theorem dX11_leastCost_124 : decode cX11_leastCost 124 = .ok (.iaload, 1) := by decide +kernel
theorem dX11_leastCost_125 : decode cX11_leastCost 125 = .ok (.iadd, 1) := by decide +kernel
theorem dX11_leastCost_126 : decode cX11_leastCost 126 = .ok (.invokestatic 292, 3) := by decide +kernel
theorem dX11_leastCost_129 : decode cX11_leastCost 129 = .ok (.iastore, 1) := by decide +kernel
theorem dX11_leastCost_130 : decode cX11_leastCost 130 = .ok (.iinc 3 1, 3) := by decide +kernel
theorem dX11_leastCost_133 : decode cX11_leastCost 133 = .ok (.goto (-77), 3) := by decide +kernel
theorem dX11_leastCost_136 : decode cX11_leastCost 136 = .ok (.iinc 1 (-1), 3) := by decide +kernel
theorem dX11_leastCost_139 : decode cX11_leastCost 139 = .ok (.goto (-126), 3) := by decide +kernel
theorem dX11_leastCost_142 : decode cX11_leastCost 142 = .ok (.aload_n 0, 1) := by decide +kernel
theorem dX11_leastCost_143 : decode cX11_leastCost 143 = .ok (.getfield 49, 3) := by decide +kernel
theorem dX11_leastCost_146 : decode cX11_leastCost 146 = .ok (.iconst 0, 1) := by decide +kernel
theorem dX11_leastCost_147 : decode cX11_leastCost 147 = .ok (.iaload, 1) := by decide +kernel
theorem dX11_leastCost_148 : decode cX11_leastCost 148 = .ok (.ireturn, 1) := by decide +kernel
set_option maxHeartbeats 4000000 in
set_option maxRecDepth 100000 in
/-- reference: leastCost -/
theorem r_leastCost (l : Launch) (D : va_G) (cI cJ cB cC : ClassId) (h : Nat) (th : Int32) (aw : Nat) (ai : Nat) (ab : Nat) (ac : Nat) (hi : Int32) (re : Int32) (aP : Nat) (ta : Int32) (po : Int32) (en : Int32) (be : Int32) (de : Int32) (fa : Int32) (a5 : Nat) (sp : Int32) (av : Nat) (an : Nat) (ak : Nat) (ne : Int32) (aW : Nat) (aC : Nat) (ag : Nat) (aT : Nat) (aN : Nat) (aF : Nat) (fw : Nat → Int32) (fv : Nat → Int32) (fn : Nat → Int32) (fk : Nat → Int32) (fC : Nat → Int32) (sz : Nat) (H_fw_W : wW fw) (H_fw_L : wL fw) (H_fn_N : wN fn) : Met l yX11_leastCost kwX11_leastCost ({ frames := 8, cells := 0, slots := 0, locals := 188 } : Room) (kPre D (kT cI cJ cB cC) sz [(h, oX11 th aw ai ab ac hi re aP ta po en be de fa a5 sp av an ak ne aW aC ag aT aN aF), (aw, .inl (cI, 2179, .inl fw)), (av, .inl (cI, 400, .inl fv)), (an, .inl (cI, 10, .inl fn)), (ak, .inl (cI, 10, .inl fk)), (aC, .inl (cI, 4096, .inl fC))] [.ref h]) (va_Qi (fun (r : Int32) (uu : Int32 × (Nat → Int32) × (Nat → Int32) × (Nat → Int32) × (Nat → Int32)) => match uu with | (n0_, f1_, f2_, f3_, f4_) => Rg n0_ 0 10 ∧ wN f2_) (fun (uu : Int32 × (Nat → Int32) × (Nat → Int32) × (Nat → Int32) × (Nat → Int32)) (t : State) => match uu with | (n0_, f1_, f2_, f3_, f4_) => kB D (kT cI cJ cB cC) (va_A [(h, oX11 th aw ai ab ac hi re aP ta po en be de fa a5 sp av an ak ne aW aC ag aT aN aF), (aw, .inl (cI, 2179, .inl fw)), (av, .inl (cI, 400, .inl fv)), (an, .inl (cI, 10, .inl fn)), (ak, .inl (cI, 10, .inl fk)), (aC, .inl (cI, 4096, .inl fC))] sz) [(h, oX11 th aw ai ab ac hi re aP ta po en be de fa a5 sp av an ak n0_ aW aC ag aT aN aF), (aw, .inl (cI, 2179, .inl fw)), (av, .inl (cI, 400, .inl f1_)), (an, .inl (cI, 10, .inl f2_)), (ak, .inl (cI, 10, .inl f3_)), (aC, .inl (cI, 4096, .inl f4_))] t) (va_A [(h, oX11 th aw ai ab ac hi re aP ta po en be de fa a5 sp av an ak ne aW aC ag aT aN aF), (aw, .inl (cI, 2179, .inl fw)), (av, .inl (cI, 400, .inl fv)), (an, .inl (cI, 10, .inl fn)), (ak, .inl (cI, 10, .inl fk)), (aC, .inl (cI, 4096, .inl fC))] sz)) 0 0 (va_A [(h, oX11 th aw ai ab ac hi re aP ta po en be de fa a5 sp av an ak ne aW aC ag aT aN aF), (aw, .inl (cI, 2179, .inl fw)), (av, .inl (cI, 400, .inl fv)), (an, .inl (cI, 10, .inl fn)), (ak, .inl (cI, 10, .inl fk)), (aC, .inl (cI, 4096, .inl fC))] sz) := by
  refine Met.ofW (cc := cX11_leastCost) (maxL := 4) (ret := (some .int)) (by decide) rfl ?_
  intro p e s m args below meth c s₁ B hml hv
  obtain ⟨rfl, hsz, hN, hE, hP, hK, hD0⟩ := hv
  have hx := B.exec
  have hb := B.bytes
  have hr := B.returns
  have hts := fun (w : Cond) (h : w ∈ kG) => atoms_spec (ws := kwX11_leastCost) B.pre w (List.mem_cons_of_mem _ h)
  have hown : s.vm.findClass RX11 = some m.cls := findClass_of_methodNamed B.named
  subst hsz
  have hD := hD0.self (sz := s.heap.size)
  generalize hAe : va_A [(h, oX11 th aw ai ab ac hi re aP ta po en be de fa a5 sp av an ak ne aW aC ag aT aN aF), (aw, .inl (cI, 2179, .inl fw)), (av, .inl (cI, 400, .inl fv)), (an, .inl (cI, 10, .inl fn)), (ak, .inl (cI, 10, .inl fk)), (aC, .inl (cI, 4096, .inl fC))] s.heap.size = A at hD hE ⊢
  have hA : ∀ q : Nat, s.heap.size ≤ q → A q := fun q h => by rw [← hAe]; exact Or.inr h
  have hl := lv_entry ([.ref h]) (n := 4) (Nat.le_of_ble_eq_true rfl)
  rw [lg_entry_eq]
  generalize (lg_sl ([.ref h]) ++ List.replicate (4 - (lg_sl ([.ref h])).length) Slot.unset).toArray = ls at hl ⊢
  have hl : lv_has ls 4 [(0, .ref h)] := hl
  obtain ⟨H, hH0⟩ : ∃ H, H = s.heap := ⟨_, rfl⟩
  have hS : va_S A s.heap H [] := by rw [hH0]; exact va_S.rf
  have hP : va_P D vwCl [(h, oX11 th aw ai ab ac hi re aP ta po en be de fa a5 sp av an ak ne aW aC ag aT aN aF), (aw, .inl (cI, 2179, .inl fw)), (av, .inl (cI, 400, .inl fv)), (an, .inl (cI, 10, .inl fn)), (ak, .inl (cI, 10, .inl fk)), (aC, .inl (cI, 4096, .inl fC))] H := by rw [hH0]; exact hP
  refine kHeap hH0 ?_
  clear hH0
  refine lv_aload_n hx hb dX11_leastCost_0 rfl (lv_at hl 0 rfl) ?_
  refine kcallv (wc := [(h, oX11 th aw ai ab ac hi re aP ta po en be de fa a5 sp av an ak ne aW aC ag aT aN aF), (aw, .inl (cI, 2179, .inl fw)), (av, .inl (cI, 400, .inl fv)), (an, .inl (cI, 10, .inl fn)), (ak, .inl (cI, 10, .inl fk))]) (wr := [(aC, .inl (cI, 4096, .inl fC))]) hP hD hS hA [0, 1, 2, 3, 4] [5] rfl rfl (by decide) (by decide) (by decide) (fun hPc hDc hFc => va_runV (As := []) (rest := []) ⟨hx, hb, hml, hown, hts⟩ (r_looks l D cI cJ cB cC h th aw ai ab ac hi re aP ta po en be de fa a5 sp av an ak ne aW aC ag aT aN aF fw fv fn fk H.size H_fw_W H_fw_L H_fn_N) (cwV 0 hts gX11_leastCost_X11_looks rfl rfl rfl ⟨rfl, hdX11_looks⟩ ⟨Nat.le_of_ble_eq_true rfl, Nat.le_of_ble_eq_true rfl⟩) ⟨kBlind, va_recv hK hPc (ci := 10) (q0 := 0) rfl rfl, fun U hU hW => ⟨rfl, by rw [hU], hN.warm hW, hE.pass hS hFc hW hU, by rw [hU]; exact hPc, va_K.moved hW.alike hK, hDc⟩⟩ rfl rfl hl.1 rfl (lv_room (Nat.le_of_ble_eq_true rfl)) dX11_leastCost_1 ⟨Nat.le_of_ble_eq_true rfl, Nat.le_of_ble_eq_true rfl⟩) (fun u H locs hw hP hD hS => ?_)
  obtain ⟨x1, g2, g3, g4⟩ := u
  have hP : va_P D vwCl [(aC, .inl (cI, 4096, .inl fC)), (h, oX11 th aw ai ab ac hi re aP ta po en be de fa a5 sp av an ak x1 aW aC ag aT aN aF), (aw, .inl (cI, 2179, .inl fw)), (av, .inl (cI, 400, .inl g2)), (an, .inl (cI, 10, .inl g3)), (ak, .inl (cI, 10, .inl g4))] H := hP
  have hD : va_D A [(aC, .inl (cI, 4096, .inl fC)), (h, oX11 th aw ai ab ac hi re aP ta po en be de fa a5 sp av an ak x1 aW aC ag aT aN aF), (aw, .inl (cI, 2179, .inl fw)), (av, .inl (cI, 400, .inl g2)), (an, .inl (cI, 10, .inl g3)), (ak, .inl (cI, 10, .inl g4))] := hD
  obtain ⟨k5, k6⟩ := hw
  refine lv_iconst (v := 1) hx hb dX11_leastCost_4 (by decide) ?_
  refine lv_aload_n hx hb dX11_leastCost_5 rfl (lv_at hl 0 rfl) ?_
  refine kpurei (wc := [(h, oX11 th aw ai ab ac hi re aP ta po en be de fa a5 sp av an ak x1 aW aC ag aT aN aF), (aw, .inl (cI, 2179, .inl fw))]) hP hD hS hA [1, 2] rfl (by decide) (fun hPc hDc hFc => va_runV (As := []) (rest := [.int 1]) ⟨hx, hb, hml, hown, hts⟩ (r_shirts l D cI cJ cB cC h th aw ai ab ac hi re aP ta po en be de fa a5 sp av an ak x1 aW aC ag aT aN aF fw H.size H_fw_W) (cwV 0 hts gX11_leastCost_X11_shirts rfl rfl rfl ⟨rfl, hdX11_shirts⟩ ⟨Nat.le_of_ble_eq_true rfl, Nat.le_of_ble_eq_true rfl⟩) ⟨kBlind, va_recv hK hPc (ci := 10) (q0 := 0) rfl rfl, fun U hU hW => ⟨rfl, by rw [hU], hN.warm hW, hE.pass hS hFc hW hU, by rw [hU]; exact hPc, va_K.moved hW.alike hK, hDc⟩⟩ rfl rfl hl.1 rfl (lv_room (Nat.le_of_ble_eq_true rfl)) dX11_leastCost_6 ⟨Nat.le_of_ble_eq_true rfl, Nat.le_of_ble_eq_true rfl⟩) (fun r7 u H locs hw hP hS => ?_)
  obtain ⟨k8, k9⟩ := hw
  refine lv_ishl hx hb dX11_leastCost_9 ?_
  refine lv_topi (fun x10 ex10 => ?_)
  have k11 : Rg x10 1 4096 := rg_shl1 12 ex10 k9 (by decide)
  clear ex10
  refine lv_iconst (v := 1) hx hb dX11_leastCost_10 (by decide) ?_
  refine lv_isub hx hb dX11_leastCost_11 ?_
  refine lv_topi (fun x12 ex12 => ?_)
  have k13 : Rg x12 0 4095 := rg_sub ex12 k11 (rg_lit (n := 1) (by decide)) (by decide)
  clear ex12
  refine lv_istore_n (lv' := [(1, .int x12), (0, .ref h)]) hx hb dX11_leastCost_12 rfl hl (by decide) rfl (fun ls hl => ?_)
  refine k_loop (hd := 13) (fun (u : Int32 × (Nat → Int32) × (Nat → Int32)) => match u with | (y5465, g5466, g5467) => ((y5465).toInt - (-1)).toNat) (fun (u : Int32 × (Nat → Int32) × (Nat → Int32)) (H : Heap) (locs : List Loc) (ls : Array Slot) => match u with | (y5465, g5466, g5467) => Rg y5465 (-1) 4095 ∧ va_P D vwCl [(aC, .inl (cI, 4096, .inl g5466)), (h, oX11 th aw ai ab ac hi re aP ta po en be de fa a5 sp av an ak x1 aW aC ag aT aN aF), (aw, .inl (cI, 2179, .inl fw)), (av, .inl (cI, 400, .inl g5467)), (an, .inl (cI, 10, .inl g3)), (ak, .inl (cI, 10, .inl g4))] H ∧ va_D A [(aC, .inl (cI, 4096, .inl g5466)), (h, oX11 th aw ai ab ac hi re aP ta po en be de fa a5 sp av an ak x1 aW aC ag aT aN aF), (aw, .inl (cI, 2179, .inl fw)), (av, .inl (cI, 400, .inl g5467)), (an, .inl (cI, 10, .inl g3)), (ak, .inl (cI, 10, .inl g4))] ∧ va_S A s.heap H locs ∧ lv_has ls 4 [(1, .int y5465), (0, .ref h)]) (x12, fC, g2) ⟨(rg_w k13 (by decide)), hP.sub (ws' := [(aC, .inl (cI, 4096, .inl fC)), (h, oX11 th aw ai ab ac hi re aP ta po en be de fa a5 sp av an ak x1 aW aC ag aT aN aF), (aw, .inl (cI, 2179, .inl fw)), (av, .inl (cI, 400, .inl g2)), (an, .inl (cI, 10, .inl g3)), (ak, .inl (cI, 10, .inl g4))]) [0, 1, 2, 3, 4, 5] rfl, hD.sub (ws' := [(aC, .inl (cI, 4096, .inl fC)), (h, oX11 th aw ai ab ac hi re aP ta po en be de fa a5 sp av an ak x1 aW aC ag aT aN aF), (aw, .inl (cI, 2179, .inl fw)), (av, .inl (cI, 400, .inl g2)), (an, .inl (cI, 10, .inl g3)), (ak, .inl (cI, 10, .inl g4))]) [0, 1, 2, 3, 4, 5] (by decide) rfl, hS, lv_sub (l' := [(1, .int x12), (0, .ref h)]) hl [0, 1] rfl⟩ (fun u H locs ls hI ih5468 => ?_)
  clear hP hD hS hl
  obtain ⟨y5465, g5466, g5467⟩ := u
  obtain ⟨hy5465, hP, hD, hS, hl⟩ := hI
  have hP : va_P D vwCl [(aC, .inl (cI, 4096, .inl g5466)), (h, oX11 th aw ai ab ac hi re aP ta po en be de fa a5 sp av an ak x1 aW aC ag aT aN aF), (aw, .inl (cI, 2179, .inl fw)), (av, .inl (cI, 400, .inl g5467)), (an, .inl (cI, 10, .inl g3)), (ak, .inl (cI, 10, .inl g4))] H := hP
  have hD : va_D A [(aC, .inl (cI, 4096, .inl g5466)), (h, oX11 th aw ai ab ac hi re aP ta po en be de fa a5 sp av an ak x1 aW aC ag aT aN aF), (aw, .inl (cI, 2179, .inl fw)), (av, .inl (cI, 400, .inl g5467)), (an, .inl (cI, 10, .inl g3)), (ak, .inl (cI, 10, .inl g4))] := hD
  have hl : lv_has ls 4 [(1, .int y5465), (0, .ref h)] := hl
  refine lv_iload_n hx hb dX11_leastCost_13 rfl (lv_at hl 0 rfl) ?_
  refine lv_if_lt (tgt := 142) hx hb dX11_leastCost_14 (by decide) (fun c5469 => ?_) (fun c5469 => ?_)
  · skip
    have k5470 : Rg y5465 (-1) (-1) := rg_l1 (ltI c5469) hy5465 (rg_lit (n := 0) (by decide)) (by decide)
    refine lv_aload_n hx hb dX11_leastCost_142 rfl (lv_at hl 1 rfl) ?_
    refine va_get (D := D) (ci := 10) (v := .ref aC) (C := RX11) (T := TX11) (N := 26) hx hb hts iG_X11 hown hK hP 1 rfl rfl 21 (by decide) (hts _ w5_15) (fun _ h9 => h9) rfl dX11_leastCost_143 ?_
    refine lv_iconst (v := 0) hx hb dX11_leastCost_146 (by decide) ?_
    refine va_iald hx hb hK hP 0 0 rfl rfl (rg_in (rg_lit (n := 0) (by decide)) (by decide)) dX11_leastCost_147 ?_
    refine lv_topi (fun x5471 ex5471 => ?_)
    clear ex5471
    have hP9 := hP.sub (ws' := [(h, oX11 th aw ai ab ac hi re aP ta po en be de fa a5 sp av an ak x1 aW aC ag aT aN aF), (aw, .inl (cI, 2179, .inl fw)), (av, .inl (cI, 400, .inl g5467)), (an, .inl (cI, 10, .inl g3)), (ak, .inl (cI, 10, .inl g4)), (aC, .inl (cI, 4096, .inl g5466))]) [1, 2, 3, 4, 5, 0] rfl
    have hD9 := hD.sub (ws' := [(h, oX11 th aw ai ab ac hi re aP ta po en be de fa a5 sp av an ak x1 aW aC ag aT aN aF), (aw, .inl (cI, 2179, .inl fw)), (av, .inl (cI, 400, .inl g5467)), (an, .inl (cI, 10, .inl g3)), (ak, .inl (cI, 10, .inl g4)), (aC, .inl (cI, 4096, .inl g5466))]) [1, 2, 3, 4, 5, 0] (by decide) rfl
    exact W.iret (v := x5471) hx hb hr (fun t ht hW => ⟨⟨x5471, (x1, g5467, g3, g4, g5466), rfl, ⟨k5, k6⟩, by rw [ht]; exact hP9, va_K.moved hW.alike hK, hD9⟩, hS.F ht⟩) hS.2.2 dX11_leastCost_148
  · skip
    have k5472 : Rg y5465 0 4095 := rg_e2 (nltI c5469) (rg_lit (n := 0) (by decide)) hy5465 (by decide)
    refine lv_iload_n hx hb dX11_leastCost_17 rfl (lv_at hl 0 rfl) ?_
    refine kpurei (wc := []) hP hD hS hA [] rfl (by decide) (fun hPc hDc hFc => va_runS (As := [.int y5465]) (rest := []) ⟨hx, hb, hml, hown, hts⟩ (z_bitCount l D cI cJ cB cC y5465 H.size) (va_cwS 1 hts gX11_leastCost_J6_bitCount_0f7a4 rfl rfl rfl hdJ6_bitCount_0f7a4 ⟨Nat.le_of_ble_eq_true rfl, Nat.le_of_ble_eq_true rfl⟩) ⟨kBlind, fun U hU hW => ⟨rfl, by rw [hU], hN.warm hW, hE.pass hS hFc hW hU, by rw [hU]; exact hPc, va_K.moved hW.alike hK, hDc⟩⟩ rfl rfl hl.1 rfl (lv_room (Nat.le_of_ble_eq_true rfl)) dX11_leastCost_18 ⟨Nat.le_of_ble_eq_true rfl, Nat.le_of_ble_eq_true rfl⟩) (fun r5473 u H locs hw hP hS => ?_)
    have k5474 := hw
    refine lv_istore_n (lv' := [(2, .int r5473), (1, .int y5465), (0, .ref h)]) hx hb dX11_leastCost_21 rfl hl (by decide) rfl (fun ls hl => ?_)
    refine lv_iload_n hx hb dX11_leastCost_22 rfl (lv_at hl 0 rfl) ?_
    refine lv_aload_n hx hb dX11_leastCost_23 rfl (lv_at hl 2 rfl) ?_
    refine va_get (D := D) (ci := 10) (v := .int x1) (C := RX11) (T := TX11) (N := 26) hx hb hts iG_X11 hown hK hP 1 rfl rfl 19 (by decide) (hts _ w40_7) (fun _ h9 => h9) rfl dX11_leastCost_24 ?_
    refine k_join (hd := 136) (cells2 := 0) (slots2 := 0) (fun (u : (Nat → Int32) × (Nat → Int32)) => match u with | (g6829, g6830) => []) (fun (u : (Nat → Int32) × (Nat → Int32)) (H : Heap) (locs : List Loc) (ls : Array Slot) => match u with | (g6829, g6830) => va_P D vwCl [(aC, .inl (cI, 4096, .inl g6829)), (h, oX11 th aw ai ab ac hi re aP ta po en be de fa a5 sp av an ak x1 aW aC ag aT aN aF), (aw, .inl (cI, 2179, .inl fw)), (av, .inl (cI, 400, .inl g6830)), (an, .inl (cI, 10, .inl g3)), (ak, .inl (cI, 10, .inl g4))] H ∧ va_D A [(aC, .inl (cI, 4096, .inl g6829)), (h, oX11 th aw ai ab ac hi re aP ta po en be de fa a5 sp av an ak x1 aW aC ag aT aN aF), (aw, .inl (cI, 2179, .inl fw)), (av, .inl (cI, 400, .inl g6830)), (an, .inl (cI, 10, .inl g3)), (ak, .inl (cI, 10, .inl g4))] ∧ va_S A s.heap H locs ∧ lv_has ls 4 [(2, .int r5473), (1, .int y5465), (0, .ref h)]) (fun u H locs ls hI => ?_) (fun hJ136 => ?_)
    · skip
      clear hP hD hS hl
      obtain ⟨g6829, g6830⟩ := u
      obtain ⟨hP, hD, hS, hl⟩ := hI
      have hP : va_P D vwCl [(aC, .inl (cI, 4096, .inl g6829)), (h, oX11 th aw ai ab ac hi re aP ta po en be de fa a5 sp av an ak x1 aW aC ag aT aN aF), (aw, .inl (cI, 2179, .inl fw)), (av, .inl (cI, 400, .inl g6830)), (an, .inl (cI, 10, .inl g3)), (ak, .inl (cI, 10, .inl g4))] H := hP
      have hD : va_D A [(aC, .inl (cI, 4096, .inl g6829)), (h, oX11 th aw ai ab ac hi re aP ta po en be de fa a5 sp av an ak x1 aW aC ag aT aN aF), (aw, .inl (cI, 2179, .inl fw)), (av, .inl (cI, 400, .inl g6830)), (an, .inl (cI, 10, .inl g3)), (ak, .inl (cI, 10, .inl g4))] := hD
      have hl : lv_has ls 4 [(2, .int r5473), (1, .int y5465), (0, .ref h)] := hl
      obtain ⟨x6831, ex6831⟩ : ∃ y : Int32, y = y5465 + (-1) := ⟨_, rfl⟩
      refine lv_iinc (v := x6831) (lv' := [(1, .int x6831), (2, .int r5473), (0, .ref h)]) hx hb dX11_leastCost_136 hl (k := 1) rfl (by rw [ex6831]; rfl) (by decide) rfl (fun ls hl => ?_)
      have k6832 : Rg x6831 (-1) 4094 := rg_add ex6831 k5472 (rg_lit (n := -1) (by decide)) (by decide)
      refine lv_goto (tgt := 13) hx hb dX11_leastCost_139 (by decide) ?_
      exact ih5468 (x6831, g6829, g6830) _ _ _ (by show ((x6831).toInt - (-1)).toNat < ((y5465).toInt - (-1)).toNat; exact mu_dn ex6831 k5472 k6832 (by decide)) ⟨(rg_w k6832 (by decide)), hP.sub (ws' := [(aC, .inl (cI, 4096, .inl g6829)), (h, oX11 th aw ai ab ac hi re aP ta po en be de fa a5 sp av an ak x1 aW aC ag aT aN aF), (aw, .inl (cI, 2179, .inl fw)), (av, .inl (cI, 400, .inl g6830)), (an, .inl (cI, 10, .inl g3)), (ak, .inl (cI, 10, .inl g4))]) [0, 1, 2, 3, 4, 5] rfl, hD.sub (ws' := [(aC, .inl (cI, 4096, .inl g6829)), (h, oX11 th aw ai ab ac hi re aP ta po en be de fa a5 sp av an ak x1 aW aC ag aT aN aF), (aw, .inl (cI, 2179, .inl fw)), (av, .inl (cI, 400, .inl g6830)), (an, .inl (cI, 10, .inl g3)), (ak, .inl (cI, 10, .inl g4))]) [0, 1, 2, 3, 4, 5] (by decide) rfl, hS, lv_sub (l' := [(1, .int x6831), (0, .ref h)]) hl [0, 2] rfl⟩
    refine lv_icmp_le (tgt := 33) hx hb dX11_leastCost_27 (by decide) (fun c6833 => ?_) (fun c6833 => ?_)
    · skip
      have k6834 : Rg r5473 0 10 := rg_e1 (leI c6833) k5474 k5 (by decide)
      refine lv_aload_n hx hb dX11_leastCost_33 rfl (lv_at hl 2 rfl) ?_
      refine va_get (D := D) (ci := 10) (v := .ref aC) (C := RX11) (T := TX11) (N := 26) hx hb hts iG_X11 hown hK hP 1 rfl rfl 21 (by decide) (hts _ w5_15) (fun _ h9 => h9) rfl dX11_leastCost_34 ?_
      refine lv_iload_n hx hb dX11_leastCost_37 rfl (lv_at hl 1 rfl) ?_
      refine lv_iload_n hx hb dX11_leastCost_38 rfl (lv_at hl 0 rfl) ?_
      refine lv_aload_n hx hb dX11_leastCost_39 rfl (lv_at hl 2 rfl) ?_
      refine va_get (D := D) (ci := 10) (v := .int x1) (C := RX11) (T := TX11) (N := 26) hx hb hts iG_X11 hown hK hP 1 rfl rfl 19 (by decide) (hts _ w40_7) (fun _ h9 => h9) rfl dX11_leastCost_40 ?_
      refine lv_icmp_ne (tgt := 50) hx hb dX11_leastCost_43 (by decide) (fun c6836 => ?_) (fun c6836 => ?_)
      · skip
        refine lv_ldcw (v := 1000000) hx hb hown (hts _ w42_16) dX11_leastCost_50 ?_
        refine va_iast hx hb hK hP hD hS 0 0 rfl rfl (rg_in k5472 (by decide)) dX11_leastCost_53 (fun H locs hP hD hS => ?_)
        have hP : va_P D vwCl [(aC, .inl (cI, 4096, .inl (upd g5466 y5465.toNatClampNeg 1000000))), (h, oX11 th aw ai ab ac hi re aP ta po en be de fa a5 sp av an ak x1 aW aC ag aT aN aF), (aw, .inl (cI, 2179, .inl fw)), (av, .inl (cI, 400, .inl g5467)), (an, .inl (cI, 10, .inl g3)), (ak, .inl (cI, 10, .inl g4))] H := hP
        have hD : va_D A [(aC, .inl (cI, 4096, .inl (upd g5466 y5465.toNatClampNeg 1000000))), (h, oX11 th aw ai ab ac hi re aP ta po en be de fa a5 sp av an ak x1 aW aC ag aT aN aF), (aw, .inl (cI, 2179, .inl fw)), (av, .inl (cI, 400, .inl g5467)), (an, .inl (cI, 10, .inl g3)), (ak, .inl (cI, 10, .inl g4))] := hD
        generalize hge : (upd g5466 y5465.toNatClampNeg 1000000) = g6837 at hP hD
        clear hge
        refine lv_iconst (v := 0) hx hb dX11_leastCost_54 (by decide) ?_
        refine lv_istore_n (lv' := [(3, .int 0), (2, .int r5473), (1, .int y5465), (0, .ref h)]) hx hb dX11_leastCost_55 rfl hl (by decide) rfl (fun ls hl => ?_)
        refine k_loop (hd := 56) (fun (u : Int32 × (Nat → Int32) × (Nat → Int32)) => match u with | (y7471, g7472, g7473) => (12 - (y7471).toInt).toNat) (fun (u : Int32 × (Nat → Int32) × (Nat → Int32)) (H : Heap) (locs : List Loc) (ls : Array Slot) => match u with | (y7471, g7472, g7473) => Rg y7471 0 12 ∧ va_P D vwCl [(aC, .inl (cI, 4096, .inl g7472)), (h, oX11 th aw ai ab ac hi re aP ta po en be de fa a5 sp av an ak x1 aW aC ag aT aN aF), (aw, .inl (cI, 2179, .inl fw)), (av, .inl (cI, 400, .inl g7473)), (an, .inl (cI, 10, .inl g3)), (ak, .inl (cI, 10, .inl g4))] H ∧ va_D A [(aC, .inl (cI, 4096, .inl g7472)), (h, oX11 th aw ai ab ac hi re aP ta po en be de fa a5 sp av an ak x1 aW aC ag aT aN aF), (aw, .inl (cI, 2179, .inl fw)), (av, .inl (cI, 400, .inl g7473)), (an, .inl (cI, 10, .inl g3)), (ak, .inl (cI, 10, .inl g4))] ∧ va_S A s.heap H locs ∧ lv_has ls 4 [(3, .int y7471), (2, .int r5473), (1, .int y5465), (0, .ref h)]) ((0 : Int32), g6837, g5467) ⟨(rg_w (rg_lit (n := 0) (by decide)) (by decide)), hP.sub (ws' := [(aC, .inl (cI, 4096, .inl g6837)), (h, oX11 th aw ai ab ac hi re aP ta po en be de fa a5 sp av an ak x1 aW aC ag aT aN aF), (aw, .inl (cI, 2179, .inl fw)), (av, .inl (cI, 400, .inl g5467)), (an, .inl (cI, 10, .inl g3)), (ak, .inl (cI, 10, .inl g4))]) [0, 1, 2, 3, 4, 5] rfl, hD.sub (ws' := [(aC, .inl (cI, 4096, .inl g6837)), (h, oX11 th aw ai ab ac hi re aP ta po en be de fa a5 sp av an ak x1 aW aC ag aT aN aF), (aw, .inl (cI, 2179, .inl fw)), (av, .inl (cI, 400, .inl g5467)), (an, .inl (cI, 10, .inl g3)), (ak, .inl (cI, 10, .inl g4))]) [0, 1, 2, 3, 4, 5] (by decide) rfl, hS, lv_sub (l' := [(3, .int 0), (2, .int r5473), (1, .int y5465), (0, .ref h)]) hl [0, 1, 2, 3] rfl⟩ (fun u H locs ls hI ih7474 => ?_)
        clear hP hD hS hl
        obtain ⟨y7471, g7472, g7473⟩ := u
        obtain ⟨hy7471, hP, hD, hS, hl⟩ := hI
        have hP : va_P D vwCl [(aC, .inl (cI, 4096, .inl g7472)), (h, oX11 th aw ai ab ac hi re aP ta po en be de fa a5 sp av an ak x1 aW aC ag aT aN aF), (aw, .inl (cI, 2179, .inl fw)), (av, .inl (cI, 400, .inl g7473)), (an, .inl (cI, 10, .inl g3)), (ak, .inl (cI, 10, .inl g4))] H := hP
        have hD : va_D A [(aC, .inl (cI, 4096, .inl g7472)), (h, oX11 th aw ai ab ac hi re aP ta po en be de fa a5 sp av an ak x1 aW aC ag aT aN aF), (aw, .inl (cI, 2179, .inl fw)), (av, .inl (cI, 400, .inl g7473)), (an, .inl (cI, 10, .inl g3)), (ak, .inl (cI, 10, .inl g4))] := hD
        have hl : lv_has ls 4 [(3, .int y7471), (2, .int r5473), (1, .int y5465), (0, .ref h)] := hl
        refine lv_iload_n hx hb dX11_leastCost_56 rfl (lv_at hl 0 rfl) ?_
        refine lv_aload_n hx hb dX11_leastCost_57 rfl (lv_at hl 3 rfl) ?_
        refine kpurei (wc := [(h, oX11 th aw ai ab ac hi re aP ta po en be de fa a5 sp av an ak x1 aW aC ag aT aN aF), (aw, .inl (cI, 2179, .inl fw))]) hP hD hS hA [1, 2] rfl (by decide) (fun hPc hDc hFc => va_runV (As := []) (rest := [.int y7471]) ⟨hx, hb, hml, hown, hts⟩ (r_shirts l D cI cJ cB cC h th aw ai ab ac hi re aP ta po en be de fa a5 sp av an ak x1 aW aC ag aT aN aF fw H.size H_fw_W) (cwV 0 hts gX11_leastCost_X11_shirts rfl rfl rfl ⟨rfl, hdX11_shirts⟩ ⟨Nat.le_of_ble_eq_true rfl, Nat.le_of_ble_eq_true rfl⟩) ⟨kBlind, va_recv hK hPc (ci := 10) (q0 := 0) rfl rfl, fun U hU hW => ⟨rfl, by rw [hU], hN.warm hW, hE.pass hS hFc hW hU, by rw [hU]; exact hPc, va_K.moved hW.alike hK, hDc⟩⟩ rfl rfl hl.1 rfl (lv_room (Nat.le_of_ble_eq_true rfl)) dX11_leastCost_58 ⟨Nat.le_of_ble_eq_true rfl, Nat.le_of_ble_eq_true rfl⟩) (fun r7475 u H locs hw hP hS => ?_)
        obtain ⟨k7476, k7477⟩ := hw
        obtain rfl : r7 = r7475 := k8.trans k7476.symm
        refine lv_icmp_ge (tgt := 136) hx hb dX11_leastCost_61 (by decide) (fun c7478 => ?_) (fun c7478 => ?_)
        · skip
          exact hJ136 (g7472, g7473) _ _ _ ⟨hP.sub (ws' := [(aC, .inl (cI, 4096, .inl g7472)), (h, oX11 th aw ai ab ac hi re aP ta po en be de fa a5 sp av an ak x1 aW aC ag aT aN aF), (aw, .inl (cI, 2179, .inl fw)), (av, .inl (cI, 400, .inl g7473)), (an, .inl (cI, 10, .inl g3)), (ak, .inl (cI, 10, .inl g4))]) [0, 1, 2, 3, 4, 5] rfl, hD.sub (ws' := [(aC, .inl (cI, 4096, .inl g7472)), (h, oX11 th aw ai ab ac hi re aP ta po en be de fa a5 sp av an ak x1 aW aC ag aT aN aF), (aw, .inl (cI, 2179, .inl fw)), (av, .inl (cI, 400, .inl g7473)), (an, .inl (cI, 10, .inl g3)), (ak, .inl (cI, 10, .inl g4))]) [0, 1, 2, 3, 4, 5] (by decide) rfl, hS, lv_sub (l' := [(2, .int r5473), (1, .int y5465), (0, .ref h)]) hl [1, 2, 3] rfl⟩
        · skip
          have k7479 : Rg y7471 0 11 := rg_l1 (nleI c7478) hy7471 k9 (by decide)
          have k7480 : Rg r7 1 12 := rg_l2 (nleI c7478) hy7471 k9 (by decide)
          refine lv_iload_n hx hb dX11_leastCost_64 rfl (lv_at hl 1 rfl) ?_
          refine lv_aload_n hx hb dX11_leastCost_65 rfl (lv_at hl 3 rfl) ?_
          refine va_get (D := D) (ci := 10) (v := .int x1) (C := RX11) (T := TX11) (N := 26) hx hb hts iG_X11 hown hK hP 1 rfl rfl 19 (by decide) (hts _ w40_7) (fun _ h9 => h9) rfl dX11_leastCost_66 ?_
          refine lv_icmp_ge (tgt := 136) hx hb dX11_leastCost_69 (by decide) (fun c7481 => ?_) (fun c7481 => ?_)
          · skip
            exact hJ136 (g7472, g7473) _ _ _ ⟨hP.sub (ws' := [(aC, .inl (cI, 4096, .inl g7472)), (h, oX11 th aw ai ab ac hi re aP ta po en be de fa a5 sp av an ak x1 aW aC ag aT aN aF), (aw, .inl (cI, 2179, .inl fw)), (av, .inl (cI, 400, .inl g7473)), (an, .inl (cI, 10, .inl g3)), (ak, .inl (cI, 10, .inl g4))]) [0, 1, 2, 3, 4, 5] rfl, hD.sub (ws' := [(aC, .inl (cI, 4096, .inl g7472)), (h, oX11 th aw ai ab ac hi re aP ta po en be de fa a5 sp av an ak x1 aW aC ag aT aN aF), (aw, .inl (cI, 2179, .inl fw)), (av, .inl (cI, 400, .inl g7473)), (an, .inl (cI, 10, .inl g3)), (ak, .inl (cI, 10, .inl g4))]) [0, 1, 2, 3, 4, 5] (by decide) rfl, hS, lv_sub (l' := [(2, .int r5473), (1, .int y5465), (0, .ref h)]) hl [1, 2, 3] rfl⟩
          · skip
            have k7482 : Rg r5473 0 9 := rg_l1 (nleI c7481) k6834 k5 (by decide)
            have k7483 : Rg x1 1 10 := rg_l2 (nleI c7481) k6834 k5 (by decide)
            refine lv_aload_n hx hb dX11_leastCost_72 rfl (lv_at hl 3 rfl) ?_
            refine va_get (D := D) (ci := 10) (v := .ref ak) (C := RX11) (T := TX11) (N := 26) hx hb hts iG_X11 hown hK hP 1 rfl rfl 18 (by decide) (hts _ w5_13) (fun _ h9 => h9) rfl dX11_leastCost_73 ?_
            refine lv_iload_n hx hb dX11_leastCost_76 rfl (lv_at hl 1 rfl) ?_
            refine va_iald hx hb hK hP 5 0 rfl rfl (rg_in k7482 (by decide)) dX11_leastCost_77 ?_
            refine lv_topi (fun x7484 ex7484 => ?_)
            clear ex7484
            refine lv_iload_n hx hb dX11_leastCost_78 rfl (lv_at hl 0 rfl) ?_
            refine kpurei (wc := []) hP hD hS hA [] rfl (by decide) (fun hPc hDc hFc => va_runS (As := [.int x7484, .int y7471]) (rest := []) ⟨hx, hb, hml, hown, hts⟩ (r_has l D cI cJ cB cC x7484 y7471 H.size) (va_cwS 2 hts gX11_leastCost_X11_has rfl rfl rfl hdX11_has ⟨Nat.le_of_ble_eq_true rfl, Nat.le_of_ble_eq_true rfl⟩) ⟨kBlind, fun U hU hW => ⟨rfl, by rw [hU], hN.warm hW, hE.pass hS hFc hW hU, by rw [hU]; exact hPc, va_K.moved hW.alike hK, hDc⟩⟩ rfl rfl hl.1 rfl (lv_room (Nat.le_of_ble_eq_true rfl)) dX11_leastCost_79 ⟨Nat.le_of_ble_eq_true rfl, Nat.le_of_ble_eq_true rfl⟩) (fun r7485 u H locs hw hP hS => ?_)
            have k7486 := hw
            refine k_join (hd := 130) (cells2 := 0) (slots2 := 0) (fun (u : (Nat → Int32) × (Nat → Int32)) => match u with | (g7510, g7511) => []) (fun (u : (Nat → Int32) × (Nat → Int32)) (H : Heap) (locs : List Loc) (ls : Array Slot) => match u with | (g7510, g7511) => va_P D vwCl [(aC, .inl (cI, 4096, .inl g7510)), (h, oX11 th aw ai ab ac hi re aP ta po en be de fa a5 sp av an ak x1 aW aC ag aT aN aF), (aw, .inl (cI, 2179, .inl fw)), (av, .inl (cI, 400, .inl g7511)), (an, .inl (cI, 10, .inl g3)), (ak, .inl (cI, 10, .inl g4))] H ∧ va_D A [(aC, .inl (cI, 4096, .inl g7510)), (h, oX11 th aw ai ab ac hi re aP ta po en be de fa a5 sp av an ak x1 aW aC ag aT aN aF), (aw, .inl (cI, 2179, .inl fw)), (av, .inl (cI, 400, .inl g7511)), (an, .inl (cI, 10, .inl g3)), (ak, .inl (cI, 10, .inl g4))] ∧ va_S A s.heap H locs ∧ lv_has ls 4 [(3, .int y7471), (2, .int r5473), (1, .int y5465), (0, .ref h)]) (fun u H locs ls hI => ?_) (fun hJ130 => ?_)
            · skip
              clear hP hD hS hl
              obtain ⟨g7510, g7511⟩ := u
              obtain ⟨hP, hD, hS, hl⟩ := hI
              have hP : va_P D vwCl [(aC, .inl (cI, 4096, .inl g7510)), (h, oX11 th aw ai ab ac hi re aP ta po en be de fa a5 sp av an ak x1 aW aC ag aT aN aF), (aw, .inl (cI, 2179, .inl fw)), (av, .inl (cI, 400, .inl g7511)), (an, .inl (cI, 10, .inl g3)), (ak, .inl (cI, 10, .inl g4))] H := hP
              have hD : va_D A [(aC, .inl (cI, 4096, .inl g7510)), (h, oX11 th aw ai ab ac hi re aP ta po en be de fa a5 sp av an ak x1 aW aC ag aT aN aF), (aw, .inl (cI, 2179, .inl fw)), (av, .inl (cI, 400, .inl g7511)), (an, .inl (cI, 10, .inl g3)), (ak, .inl (cI, 10, .inl g4))] := hD
              have hl : lv_has ls 4 [(3, .int y7471), (2, .int r5473), (1, .int y5465), (0, .ref h)] := hl
              obtain ⟨x7512, ex7512⟩ : ∃ y : Int32, y = y7471 + 1 := ⟨_, rfl⟩
              refine lv_iinc (v := x7512) (lv' := [(3, .int x7512), (2, .int r5473), (1, .int y5465), (0, .ref h)]) hx hb dX11_leastCost_130 hl (k := 0) rfl (by rw [ex7512]; rfl) (by decide) rfl (fun ls hl => ?_)
              have k7513 : Rg x7512 1 12 := rg_add ex7512 k7479 (rg_lit (n := 1) (by decide)) (by decide)
              refine lv_goto (tgt := 56) hx hb dX11_leastCost_133 (by decide) ?_
              exact ih7474 (x7512, g7510, g7511) _ _ _ (by show (12 - (x7512).toInt).toNat < (12 - (y7471).toInt).toNat; exact mu_up ex7512 k7479 k7513 (by decide)) ⟨(rg_w k7513 (by decide)), hP.sub (ws' := [(aC, .inl (cI, 4096, .inl g7510)), (h, oX11 th aw ai ab ac hi re aP ta po en be de fa a5 sp av an ak x1 aW aC ag aT aN aF), (aw, .inl (cI, 2179, .inl fw)), (av, .inl (cI, 400, .inl g7511)), (an, .inl (cI, 10, .inl g3)), (ak, .inl (cI, 10, .inl g4))]) [0, 1, 2, 3, 4, 5] rfl, hD.sub (ws' := [(aC, .inl (cI, 4096, .inl g7510)), (h, oX11 th aw ai ab ac hi re aP ta po en be de fa a5 sp av an ak x1 aW aC ag aT aN aF), (aw, .inl (cI, 2179, .inl fw)), (av, .inl (cI, 400, .inl g7511)), (an, .inl (cI, 10, .inl g3)), (ak, .inl (cI, 10, .inl g4))]) [0, 1, 2, 3, 4, 5] (by decide) rfl, hS, lv_sub (l' := [(3, .int x7512), (2, .int r5473), (1, .int y5465), (0, .ref h)]) hl [0, 1, 2, 3] rfl⟩
            refine lv_if_eq (tgt := 130) hx hb dX11_leastCost_82 (by decide) (fun c7514 => ?_) (fun c7514 => ?_)
            · skip
              have k7515 : Rg r7485 0 0 := rg_q1 (eqI c7514) k7486 (rg_lit (n := 0) (by decide)) (by decide)
              exact hJ130 (g7472, g7473) _ _ _ ⟨hP.sub (ws' := [(aC, .inl (cI, 4096, .inl g7472)), (h, oX11 th aw ai ab ac hi re aP ta po en be de fa a5 sp av an ak x1 aW aC ag aT aN aF), (aw, .inl (cI, 2179, .inl fw)), (av, .inl (cI, 400, .inl g7473)), (an, .inl (cI, 10, .inl g3)), (ak, .inl (cI, 10, .inl g4))]) [0, 1, 2, 3, 4, 5] rfl, hD.sub (ws' := [(aC, .inl (cI, 4096, .inl g7472)), (h, oX11 th aw ai ab ac hi re aP ta po en be de fa a5 sp av an ak x1 aW aC ag aT aN aF), (aw, .inl (cI, 2179, .inl fw)), (av, .inl (cI, 400, .inl g7473)), (an, .inl (cI, 10, .inl g3)), (ak, .inl (cI, 10, .inl g4))]) [0, 1, 2, 3, 4, 5] (by decide) rfl, hS, lv_sub (l' := [(3, .int y7471), (2, .int r5473), (1, .int y5465), (0, .ref h)]) hl [0, 1, 2, 3] rfl⟩
            · skip
              have k7516 : Rg r7485 1 1 := rg_n1 (neI c7514) k7486 (rg_lit (n := 0) (by decide)) (by decide)
              refine lv_iload_n hx hb dX11_leastCost_85 rfl (lv_at hl 2 rfl) ?_
              refine lv_iload_n hx hb dX11_leastCost_86 rfl (lv_at hl 0 rfl) ?_
              refine kpurei (wc := []) hP hD hS hA [] rfl (by decide) (fun hPc hDc hFc => va_runS (As := [.int y5465, .int y7471]) (rest := []) ⟨hx, hb, hml, hown, hts⟩ (r_has l D cI cJ cB cC y5465 y7471 H.size) (va_cwS 2 hts gX11_leastCost_X11_has rfl rfl rfl hdX11_has ⟨Nat.le_of_ble_eq_true rfl, Nat.le_of_ble_eq_true rfl⟩) ⟨kBlind, fun U hU hW => ⟨rfl, by rw [hU], hN.warm hW, hE.pass hS hFc hW hU, by rw [hU]; exact hPc, va_K.moved hW.alike hK, hDc⟩⟩ rfl rfl hl.1 rfl (lv_room (Nat.le_of_ble_eq_true rfl)) dX11_leastCost_87 ⟨Nat.le_of_ble_eq_true rfl, Nat.le_of_ble_eq_true rfl⟩) (fun r7517 u H locs hw hP hS => ?_)
              have k7518 := hw
              refine lv_if_ne (tgt := 130) hx hb dX11_leastCost_90 (by decide) (fun c7519 => ?_) (fun c7519 => ?_)
              · skip
                have k7520 : Rg r7517 1 1 := rg_n1 (neI c7519) k7518 (rg_lit (n := 0) (by decide)) (by decide)
                exact hJ130 (g7472, g7473) _ _ _ ⟨hP.sub (ws' := [(aC, .inl (cI, 4096, .inl g7472)), (h, oX11 th aw ai ab ac hi re aP ta po en be de fa a5 sp av an ak x1 aW aC ag aT aN aF), (aw, .inl (cI, 2179, .inl fw)), (av, .inl (cI, 400, .inl g7473)), (an, .inl (cI, 10, .inl g3)), (ak, .inl (cI, 10, .inl g4))]) [0, 1, 2, 3, 4, 5] rfl, hD.sub (ws' := [(aC, .inl (cI, 4096, .inl g7472)), (h, oX11 th aw ai ab ac hi re aP ta po en be de fa a5 sp av an ak x1 aW aC ag aT aN aF), (aw, .inl (cI, 2179, .inl fw)), (av, .inl (cI, 400, .inl g7473)), (an, .inl (cI, 10, .inl g3)), (ak, .inl (cI, 10, .inl g4))]) [0, 1, 2, 3, 4, 5] (by decide) rfl, hS, lv_sub (l' := [(3, .int y7471), (2, .int r5473), (1, .int y5465), (0, .ref h)]) hl [0, 1, 2, 3] rfl⟩
              · skip
                have k7521 : Rg r7517 0 0 := rg_q1 (eqI c7519) k7518 (rg_lit (n := 0) (by decide)) (by decide)
                refine lv_aload_n hx hb dX11_leastCost_93 rfl (lv_at hl 3 rfl) ?_
                refine va_get (D := D) (ci := 10) (v := .ref aC) (C := RX11) (T := TX11) (N := 26) hx hb hts iG_X11 hown hK hP 1 rfl rfl 21 (by decide) (hts _ w5_15) (fun _ h9 => h9) rfl dX11_leastCost_94 ?_
                refine lv_iload_n hx hb dX11_leastCost_97 rfl (lv_at hl 2 rfl) ?_
                refine lv_aload_n hx hb dX11_leastCost_98 rfl (lv_at hl 3 rfl) ?_
                refine va_get (D := D) (ci := 10) (v := .ref aC) (C := RX11) (T := TX11) (N := 26) hx hb hts iG_X11 hown hK hP 1 rfl rfl 21 (by decide) (hts _ w5_15) (fun _ h9 => h9) rfl dX11_leastCost_99 ?_
                refine lv_iload_n hx hb dX11_leastCost_102 rfl (lv_at hl 2 rfl) ?_
                refine va_iald hx hb hK hP 0 0 rfl rfl (rg_in k5472 (by decide)) dX11_leastCost_103 ?_
                refine lv_topi (fun x7522 ex7522 => ?_)
                clear ex7522
                refine lv_aload_n hx hb dX11_leastCost_104 rfl (lv_at hl 3 rfl) ?_
                refine lv_aload_n hx hb dX11_leastCost_105 rfl (lv_at hl 3 rfl) ?_
                refine va_get (D := D) (ci := 10) (v := .ref an) (C := RX11) (T := TX11) (N := 26) hx hb hts iG_X11 hown hK hP 1 rfl rfl 17 (by decide) (hts _ w5_12) (fun _ h9 => h9) rfl dX11_leastCost_106 ?_
                refine lv_iload_n hx hb dX11_leastCost_109 rfl (lv_at hl 1 rfl) ?_
                refine va_iald hx hb hK hP 4 0 rfl rfl (rg_in k7482 (by decide)) dX11_leastCost_110 ?_
                refine lv_topi (fun x7523 ex7523 => ?_)
                have k7524 : Rg x7523 0 9 := wN_rd k6 ex7523
                clear ex7523
                refine lv_iload_n hx hb dX11_leastCost_111 rfl (lv_at hl 0 rfl) ?_
                refine kcalli (wc := [(h, oX11 th aw ai ab ac hi re aP ta po en be de fa a5 sp av an ak x1 aW aC ag aT aN aF), (aw, .inl (cI, 2179, .inl fw)), (av, .inl (cI, 400, .inl g7473))]) (wr := [(aC, .inl (cI, 4096, .inl g7472)), (an, .inl (cI, 10, .inl g3)), (ak, .inl (cI, 10, .inl g4))]) hP hD hS hA [1, 2, 3] [0, 4, 5] rfl rfl (by decide) (by decide) (by decide) (fun hPc hDc hFc => va_runV (As := [.int x7523, .int y7471]) (rest := [.int x7522, .int y5465, .ref aC]) ⟨hx, hb, hml, hown, hts⟩ (r_costOf l D cI cJ cB cC h th aw ai ab ac hi re aP ta po en be de fa a5 sp av an ak x1 aW aC ag aT aN aF fw g7473 x7523 y7471 H.size k7524 k7479 H_fw_W H_fw_L) (cwV 2 hts gX11_leastCost_X11_costOf rfl rfl rfl ⟨rfl, hdX11_costOf⟩ ⟨Nat.le_of_ble_eq_true rfl, Nat.le_of_ble_eq_true rfl⟩) ⟨kBlind, va_recv hK hPc (ci := 10) (q0 := 0) rfl rfl, fun U hU hW => ⟨rfl, by rw [hU], hN.warm hW, hE.pass hS hFc hW hU, by rw [hU]; exact hPc, va_K.moved hW.alike hK, hDc⟩⟩ rfl rfl hl.1 rfl (lv_room (Nat.le_of_ble_eq_true rfl)) dX11_leastCost_112 ⟨Nat.le_of_ble_eq_true rfl, Nat.le_of_ble_eq_true rfl⟩) (fun r7525 u H locs hw hP hD hS => ?_)
                obtain ⟨g7526, rfl⟩ : ∃ z, z = u := ⟨_, rfl⟩
                have hP : va_P D vwCl [(aC, .inl (cI, 4096, .inl g7472)), (an, .inl (cI, 10, .inl g3)), (ak, .inl (cI, 10, .inl g4)), (h, oX11 th aw ai ab ac hi re aP ta po en be de fa a5 sp av an ak x1 aW aC ag aT aN aF), (aw, .inl (cI, 2179, .inl fw)), (av, .inl (cI, 400, .inl g7526))] H := hP
                have hD : va_D A [(aC, .inl (cI, 4096, .inl g7472)), (an, .inl (cI, 10, .inl g3)), (ak, .inl (cI, 10, .inl g4)), (h, oX11 th aw ai ab ac hi re aP ta po en be de fa a5 sp av an ak x1 aW aC ag aT aN aF), (aw, .inl (cI, 2179, .inl fw)), (av, .inl (cI, 400, .inl g7526))] := hD
                refine lv_aload_n hx hb dX11_leastCost_115 rfl (lv_at hl 3 rfl) ?_
                refine va_get (D := D) (ci := 10) (v := .ref aC) (C := RX11) (T := TX11) (N := 26) hx hb hts iG_X11 hown hK hP 3 rfl rfl 21 (by decide) (hts _ w5_15) (fun _ h9 => h9) rfl dX11_leastCost_116 ?_
                refine lv_iload_n hx hb dX11_leastCost_119 rfl (lv_at hl 2 rfl) ?_
                refine lv_iconst (v := 1) hx hb dX11_leastCost_120 (by decide) ?_
                refine lv_iload_n hx hb dX11_leastCost_121 rfl (lv_at hl 0 rfl) ?_
                refine lv_ishl hx hb dX11_leastCost_122 ?_
                refine lv_topi (fun x7527 ex7527 => ?_)
                have k7528 : Rg x7527 1 2048 := rg_shl1 11 ex7527 k7479 (by decide)
                clear ex7527
                refine lv_ior hx hb dX11_leastCost_123 ?_
                refine lv_topi (fun x7529 ex7529 => ?_)
                have k7530 : Rg x7529 0 4095 := rg_or 12 ex7529 k5472 k7528 (by decide)
                clear ex7529
                refine va_iald hx hb hK hP 0 0 rfl rfl (rg_in k7530 (by decide)) dX11_leastCost_124 ?_
                refine lv_topi (fun x7531 ex7531 => ?_)
                clear ex7531
                refine lv_iadd hx hb dX11_leastCost_125 ?_
                refine lv_topi (fun x7532 ex7532 => ?_)
                clear ex7532
                refine va_mmin hx hb (by rw [hml]; exact hl.1.symm) hown (hts _ w34_13) (hts _ w24_21) (hts _ w8_7) (hts _ w24_22) (Nat.le_of_ble_eq_true rfl) (Nat.le_of_ble_eq_true rfl) (Nat.le_of_ble_eq_true rfl) (Nat.le_of_ble_eq_true rfl) dX11_leastCost_126 ?_
                refine lv_topi (fun x7533 ex7533 => ?_)
                refine va_iast hx hb hK hP hD hS 0 0 rfl rfl (rg_in k5472 (by decide)) dX11_leastCost_129 (fun H locs hP hD hS => ?_)
                have hP : va_P D vwCl [(aC, .inl (cI, 4096, .inl (upd g7472 y5465.toNatClampNeg x7533))), (an, .inl (cI, 10, .inl g3)), (ak, .inl (cI, 10, .inl g4)), (h, oX11 th aw ai ab ac hi re aP ta po en be de fa a5 sp av an ak x1 aW aC ag aT aN aF), (aw, .inl (cI, 2179, .inl fw)), (av, .inl (cI, 400, .inl g7526))] H := hP
                have hD : va_D A [(aC, .inl (cI, 4096, .inl (upd g7472 y5465.toNatClampNeg x7533))), (an, .inl (cI, 10, .inl g3)), (ak, .inl (cI, 10, .inl g4)), (h, oX11 th aw ai ab ac hi re aP ta po en be de fa a5 sp av an ak x1 aW aC ag aT aN aF), (aw, .inl (cI, 2179, .inl fw)), (av, .inl (cI, 400, .inl g7526))] := hD
                generalize hge : (upd g7472 y5465.toNatClampNeg x7533) = g7534 at hP hD
                clear hge
                exact hJ130 (g7534, g7526) _ _ _ ⟨hP.sub (ws' := [(aC, .inl (cI, 4096, .inl g7534)), (h, oX11 th aw ai ab ac hi re aP ta po en be de fa a5 sp av an ak x1 aW aC ag aT aN aF), (aw, .inl (cI, 2179, .inl fw)), (av, .inl (cI, 400, .inl g7526)), (an, .inl (cI, 10, .inl g3)), (ak, .inl (cI, 10, .inl g4))]) [0, 3, 4, 5, 1, 2] rfl, hD.sub (ws' := [(aC, .inl (cI, 4096, .inl g7534)), (h, oX11 th aw ai ab ac hi re aP ta po en be de fa a5 sp av an ak x1 aW aC ag aT aN aF), (aw, .inl (cI, 2179, .inl fw)), (av, .inl (cI, 400, .inl g7526)), (an, .inl (cI, 10, .inl g3)), (ak, .inl (cI, 10, .inl g4))]) [0, 3, 4, 5, 1, 2] (by decide) rfl, hS, lv_sub (l' := [(3, .int y7471), (2, .int r5473), (1, .int y5465), (0, .ref h)]) hl [0, 1, 2, 3] rfl⟩
      · skip
        refine lv_iconst (v := 0) hx hb dX11_leastCost_46 (by decide) ?_
        refine lv_goto (tgt := 53) hx hb dX11_leastCost_47 (by decide) ?_
        refine va_iast hx hb hK hP hD hS 0 0 rfl rfl (rg_in k5472 (by decide)) dX11_leastCost_53 (fun H locs hP hD hS => ?_)
        have hP : va_P D vwCl [(aC, .inl (cI, 4096, .inl (upd g5466 y5465.toNatClampNeg 0))), (h, oX11 th aw ai ab ac hi re aP ta po en be de fa a5 sp av an ak x1 aW aC ag aT aN aF), (aw, .inl (cI, 2179, .inl fw)), (av, .inl (cI, 400, .inl g5467)), (an, .inl (cI, 10, .inl g3)), (ak, .inl (cI, 10, .inl g4))] H := hP
        have hD : va_D A [(aC, .inl (cI, 4096, .inl (upd g5466 y5465.toNatClampNeg 0))), (h, oX11 th aw ai ab ac hi re aP ta po en be de fa a5 sp av an ak x1 aW aC ag aT aN aF), (aw, .inl (cI, 2179, .inl fw)), (av, .inl (cI, 400, .inl g5467)), (an, .inl (cI, 10, .inl g3)), (ak, .inl (cI, 10, .inl g4))] := hD
        generalize hge : (upd g5466 y5465.toNatClampNeg 0) = g7535 at hP hD
        clear hge
        refine lv_iconst (v := 0) hx hb dX11_leastCost_54 (by decide) ?_
        refine lv_istore_n (lv' := [(3, .int 0), (2, .int r5473), (1, .int y5465), (0, .ref h)]) hx hb dX11_leastCost_55 rfl hl (by decide) rfl (fun ls hl => ?_)
        refine k_loop (hd := 56) (fun (u : Int32 × (Nat → Int32) × (Nat → Int32)) => match u with | (y8169, g8170, g8171) => (12 - (y8169).toInt).toNat) (fun (u : Int32 × (Nat → Int32) × (Nat → Int32)) (H : Heap) (locs : List Loc) (ls : Array Slot) => match u with | (y8169, g8170, g8171) => Rg y8169 0 12 ∧ va_P D vwCl [(aC, .inl (cI, 4096, .inl g8170)), (h, oX11 th aw ai ab ac hi re aP ta po en be de fa a5 sp av an ak x1 aW aC ag aT aN aF), (aw, .inl (cI, 2179, .inl fw)), (av, .inl (cI, 400, .inl g8171)), (an, .inl (cI, 10, .inl g3)), (ak, .inl (cI, 10, .inl g4))] H ∧ va_D A [(aC, .inl (cI, 4096, .inl g8170)), (h, oX11 th aw ai ab ac hi re aP ta po en be de fa a5 sp av an ak x1 aW aC ag aT aN aF), (aw, .inl (cI, 2179, .inl fw)), (av, .inl (cI, 400, .inl g8171)), (an, .inl (cI, 10, .inl g3)), (ak, .inl (cI, 10, .inl g4))] ∧ va_S A s.heap H locs ∧ lv_has ls 4 [(3, .int y8169), (2, .int r5473), (1, .int y5465), (0, .ref h)]) ((0 : Int32), g7535, g5467) ⟨(rg_w (rg_lit (n := 0) (by decide)) (by decide)), hP.sub (ws' := [(aC, .inl (cI, 4096, .inl g7535)), (h, oX11 th aw ai ab ac hi re aP ta po en be de fa a5 sp av an ak x1 aW aC ag aT aN aF), (aw, .inl (cI, 2179, .inl fw)), (av, .inl (cI, 400, .inl g5467)), (an, .inl (cI, 10, .inl g3)), (ak, .inl (cI, 10, .inl g4))]) [0, 1, 2, 3, 4, 5] rfl, hD.sub (ws' := [(aC, .inl (cI, 4096, .inl g7535)), (h, oX11 th aw ai ab ac hi re aP ta po en be de fa a5 sp av an ak x1 aW aC ag aT aN aF), (aw, .inl (cI, 2179, .inl fw)), (av, .inl (cI, 400, .inl g5467)), (an, .inl (cI, 10, .inl g3)), (ak, .inl (cI, 10, .inl g4))]) [0, 1, 2, 3, 4, 5] (by decide) rfl, hS, lv_sub (l' := [(3, .int 0), (2, .int r5473), (1, .int y5465), (0, .ref h)]) hl [0, 1, 2, 3] rfl⟩ (fun u H locs ls hI ih8172 => ?_)
        clear hP hD hS hl
        obtain ⟨y8169, g8170, g8171⟩ := u
        obtain ⟨hy8169, hP, hD, hS, hl⟩ := hI
        have hP : va_P D vwCl [(aC, .inl (cI, 4096, .inl g8170)), (h, oX11 th aw ai ab ac hi re aP ta po en be de fa a5 sp av an ak x1 aW aC ag aT aN aF), (aw, .inl (cI, 2179, .inl fw)), (av, .inl (cI, 400, .inl g8171)), (an, .inl (cI, 10, .inl g3)), (ak, .inl (cI, 10, .inl g4))] H := hP
        have hD : va_D A [(aC, .inl (cI, 4096, .inl g8170)), (h, oX11 th aw ai ab ac hi re aP ta po en be de fa a5 sp av an ak x1 aW aC ag aT aN aF), (aw, .inl (cI, 2179, .inl fw)), (av, .inl (cI, 400, .inl g8171)), (an, .inl (cI, 10, .inl g3)), (ak, .inl (cI, 10, .inl g4))] := hD
        have hl : lv_has ls 4 [(3, .int y8169), (2, .int r5473), (1, .int y5465), (0, .ref h)] := hl
        refine lv_iload_n hx hb dX11_leastCost_56 rfl (lv_at hl 0 rfl) ?_
        refine lv_aload_n hx hb dX11_leastCost_57 rfl (lv_at hl 3 rfl) ?_
        refine kpurei (wc := [(h, oX11 th aw ai ab ac hi re aP ta po en be de fa a5 sp av an ak x1 aW aC ag aT aN aF), (aw, .inl (cI, 2179, .inl fw))]) hP hD hS hA [1, 2] rfl (by decide) (fun hPc hDc hFc => va_runV (As := []) (rest := [.int y8169]) ⟨hx, hb, hml, hown, hts⟩ (r_shirts l D cI cJ cB cC h th aw ai ab ac hi re aP ta po en be de fa a5 sp av an ak x1 aW aC ag aT aN aF fw H.size H_fw_W) (cwV 0 hts gX11_leastCost_X11_shirts rfl rfl rfl ⟨rfl, hdX11_shirts⟩ ⟨Nat.le_of_ble_eq_true rfl, Nat.le_of_ble_eq_true rfl⟩) ⟨kBlind, va_recv hK hPc (ci := 10) (q0 := 0) rfl rfl, fun U hU hW => ⟨rfl, by rw [hU], hN.warm hW, hE.pass hS hFc hW hU, by rw [hU]; exact hPc, va_K.moved hW.alike hK, hDc⟩⟩ rfl rfl hl.1 rfl (lv_room (Nat.le_of_ble_eq_true rfl)) dX11_leastCost_58 ⟨Nat.le_of_ble_eq_true rfl, Nat.le_of_ble_eq_true rfl⟩) (fun r8173 u H locs hw hP hS => ?_)
        obtain ⟨k8174, k8175⟩ := hw
        obtain rfl : r7 = r8173 := k8.trans k8174.symm
        refine lv_icmp_ge (tgt := 136) hx hb dX11_leastCost_61 (by decide) (fun c8176 => ?_) (fun c8176 => ?_)
        · skip
          exact hJ136 (g8170, g8171) _ _ _ ⟨hP.sub (ws' := [(aC, .inl (cI, 4096, .inl g8170)), (h, oX11 th aw ai ab ac hi re aP ta po en be de fa a5 sp av an ak x1 aW aC ag aT aN aF), (aw, .inl (cI, 2179, .inl fw)), (av, .inl (cI, 400, .inl g8171)), (an, .inl (cI, 10, .inl g3)), (ak, .inl (cI, 10, .inl g4))]) [0, 1, 2, 3, 4, 5] rfl, hD.sub (ws' := [(aC, .inl (cI, 4096, .inl g8170)), (h, oX11 th aw ai ab ac hi re aP ta po en be de fa a5 sp av an ak x1 aW aC ag aT aN aF), (aw, .inl (cI, 2179, .inl fw)), (av, .inl (cI, 400, .inl g8171)), (an, .inl (cI, 10, .inl g3)), (ak, .inl (cI, 10, .inl g4))]) [0, 1, 2, 3, 4, 5] (by decide) rfl, hS, lv_sub (l' := [(2, .int r5473), (1, .int y5465), (0, .ref h)]) hl [1, 2, 3] rfl⟩
        · skip
          have k8177 : Rg y8169 0 11 := rg_l1 (nleI c8176) hy8169 k9 (by decide)
          have k8178 : Rg r7 1 12 := rg_l2 (nleI c8176) hy8169 k9 (by decide)
          refine lv_iload_n hx hb dX11_leastCost_64 rfl (lv_at hl 1 rfl) ?_
          refine lv_aload_n hx hb dX11_leastCost_65 rfl (lv_at hl 3 rfl) ?_
          refine va_get (D := D) (ci := 10) (v := .int x1) (C := RX11) (T := TX11) (N := 26) hx hb hts iG_X11 hown hK hP 1 rfl rfl 19 (by decide) (hts _ w40_7) (fun _ h9 => h9) rfl dX11_leastCost_66 ?_
          refine lv_icmp_ge (tgt := 136) hx hb dX11_leastCost_69 (by decide) (fun c8179 => ?_) (fun c8179 => ?_)
          · skip
            exact hJ136 (g8170, g8171) _ _ _ ⟨hP.sub (ws' := [(aC, .inl (cI, 4096, .inl g8170)), (h, oX11 th aw ai ab ac hi re aP ta po en be de fa a5 sp av an ak x1 aW aC ag aT aN aF), (aw, .inl (cI, 2179, .inl fw)), (av, .inl (cI, 400, .inl g8171)), (an, .inl (cI, 10, .inl g3)), (ak, .inl (cI, 10, .inl g4))]) [0, 1, 2, 3, 4, 5] rfl, hD.sub (ws' := [(aC, .inl (cI, 4096, .inl g8170)), (h, oX11 th aw ai ab ac hi re aP ta po en be de fa a5 sp av an ak x1 aW aC ag aT aN aF), (aw, .inl (cI, 2179, .inl fw)), (av, .inl (cI, 400, .inl g8171)), (an, .inl (cI, 10, .inl g3)), (ak, .inl (cI, 10, .inl g4))]) [0, 1, 2, 3, 4, 5] (by decide) rfl, hS, lv_sub (l' := [(2, .int r5473), (1, .int y5465), (0, .ref h)]) hl [1, 2, 3] rfl⟩
          · skip
            have k8180 : Rg r5473 0 9 := rg_l1 (nleI c8179) k6834 k5 (by decide)
            have k8181 : Rg x1 1 10 := rg_l2 (nleI c8179) k6834 k5 (by decide)
            refine lv_aload_n hx hb dX11_leastCost_72 rfl (lv_at hl 3 rfl) ?_
            refine va_get (D := D) (ci := 10) (v := .ref ak) (C := RX11) (T := TX11) (N := 26) hx hb hts iG_X11 hown hK hP 1 rfl rfl 18 (by decide) (hts _ w5_13) (fun _ h9 => h9) rfl dX11_leastCost_73 ?_
            refine lv_iload_n hx hb dX11_leastCost_76 rfl (lv_at hl 1 rfl) ?_
            refine va_iald hx hb hK hP 5 0 rfl rfl (rg_in k8180 (by decide)) dX11_leastCost_77 ?_
            refine lv_topi (fun x8182 ex8182 => ?_)
            clear ex8182
            refine lv_iload_n hx hb dX11_leastCost_78 rfl (lv_at hl 0 rfl) ?_
            refine kpurei (wc := []) hP hD hS hA [] rfl (by decide) (fun hPc hDc hFc => va_runS (As := [.int x8182, .int y8169]) (rest := []) ⟨hx, hb, hml, hown, hts⟩ (r_has l D cI cJ cB cC x8182 y8169 H.size) (va_cwS 2 hts gX11_leastCost_X11_has rfl rfl rfl hdX11_has ⟨Nat.le_of_ble_eq_true rfl, Nat.le_of_ble_eq_true rfl⟩) ⟨kBlind, fun U hU hW => ⟨rfl, by rw [hU], hN.warm hW, hE.pass hS hFc hW hU, by rw [hU]; exact hPc, va_K.moved hW.alike hK, hDc⟩⟩ rfl rfl hl.1 rfl (lv_room (Nat.le_of_ble_eq_true rfl)) dX11_leastCost_79 ⟨Nat.le_of_ble_eq_true rfl, Nat.le_of_ble_eq_true rfl⟩) (fun r8183 u H locs hw hP hS => ?_)
            have k8184 := hw
            refine k_join (hd := 130) (cells2 := 0) (slots2 := 0) (fun (u : (Nat → Int32) × (Nat → Int32)) => match u with | (g8208, g8209) => []) (fun (u : (Nat → Int32) × (Nat → Int32)) (H : Heap) (locs : List Loc) (ls : Array Slot) => match u with | (g8208, g8209) => va_P D vwCl [(aC, .inl (cI, 4096, .inl g8208)), (h, oX11 th aw ai ab ac hi re aP ta po en be de fa a5 sp av an ak x1 aW aC ag aT aN aF), (aw, .inl (cI, 2179, .inl fw)), (av, .inl (cI, 400, .inl g8209)), (an, .inl (cI, 10, .inl g3)), (ak, .inl (cI, 10, .inl g4))] H ∧ va_D A [(aC, .inl (cI, 4096, .inl g8208)), (h, oX11 th aw ai ab ac hi re aP ta po en be de fa a5 sp av an ak x1 aW aC ag aT aN aF), (aw, .inl (cI, 2179, .inl fw)), (av, .inl (cI, 400, .inl g8209)), (an, .inl (cI, 10, .inl g3)), (ak, .inl (cI, 10, .inl g4))] ∧ va_S A s.heap H locs ∧ lv_has ls 4 [(3, .int y8169), (2, .int r5473), (1, .int y5465), (0, .ref h)]) (fun u H locs ls hI => ?_) (fun hJ130 => ?_)
            · skip
              clear hP hD hS hl
              obtain ⟨g8208, g8209⟩ := u
              obtain ⟨hP, hD, hS, hl⟩ := hI
              have hP : va_P D vwCl [(aC, .inl (cI, 4096, .inl g8208)), (h, oX11 th aw ai ab ac hi re aP ta po en be de fa a5 sp av an ak x1 aW aC ag aT aN aF), (aw, .inl (cI, 2179, .inl fw)), (av, .inl (cI, 400, .inl g8209)), (an, .inl (cI, 10, .inl g3)), (ak, .inl (cI, 10, .inl g4))] H := hP
              have hD : va_D A [(aC, .inl (cI, 4096, .inl g8208)), (h, oX11 th aw ai ab ac hi re aP ta po en be de fa a5 sp av an ak x1 aW aC ag aT aN aF), (aw, .inl (cI, 2179, .inl fw)), (av, .inl (cI, 400, .inl g8209)), (an, .inl (cI, 10, .inl g3)), (ak, .inl (cI, 10, .inl g4))] := hD
              have hl : lv_has ls 4 [(3, .int y8169), (2, .int r5473), (1, .int y5465), (0, .ref h)] := hl
              obtain ⟨x8210, ex8210⟩ : ∃ y : Int32, y = y8169 + 1 := ⟨_, rfl⟩
              refine lv_iinc (v := x8210) (lv' := [(3, .int x8210), (2, .int r5473), (1, .int y5465), (0, .ref h)]) hx hb dX11_leastCost_130 hl (k := 0) rfl (by rw [ex8210]; rfl) (by decide) rfl (fun ls hl => ?_)
              have k8211 : Rg x8210 1 12 := rg_add ex8210 k8177 (rg_lit (n := 1) (by decide)) (by decide)
              refine lv_goto (tgt := 56) hx hb dX11_leastCost_133 (by decide) ?_
              exact ih8172 (x8210, g8208, g8209) _ _ _ (by show (12 - (x8210).toInt).toNat < (12 - (y8169).toInt).toNat; exact mu_up ex8210 k8177 k8211 (by decide)) ⟨(rg_w k8211 (by decide)), hP.sub (ws' := [(aC, .inl (cI, 4096, .inl g8208)), (h, oX11 th aw ai ab ac hi re aP ta po en be de fa a5 sp av an ak x1 aW aC ag aT aN aF), (aw, .inl (cI, 2179, .inl fw)), (av, .inl (cI, 400, .inl g8209)), (an, .inl (cI, 10, .inl g3)), (ak, .inl (cI, 10, .inl g4))]) [0, 1, 2, 3, 4, 5] rfl, hD.sub (ws' := [(aC, .inl (cI, 4096, .inl g8208)), (h, oX11 th aw ai ab ac hi re aP ta po en be de fa a5 sp av an ak x1 aW aC ag aT aN aF), (aw, .inl (cI, 2179, .inl fw)), (av, .inl (cI, 400, .inl g8209)), (an, .inl (cI, 10, .inl g3)), (ak, .inl (cI, 10, .inl g4))]) [0, 1, 2, 3, 4, 5] (by decide) rfl, hS, lv_sub (l' := [(3, .int x8210), (2, .int r5473), (1, .int y5465), (0, .ref h)]) hl [0, 1, 2, 3] rfl⟩
            refine lv_if_eq (tgt := 130) hx hb dX11_leastCost_82 (by decide) (fun c8212 => ?_) (fun c8212 => ?_)
            · skip
              have k8213 : Rg r8183 0 0 := rg_q1 (eqI c8212) k8184 (rg_lit (n := 0) (by decide)) (by decide)
              exact hJ130 (g8170, g8171) _ _ _ ⟨hP.sub (ws' := [(aC, .inl (cI, 4096, .inl g8170)), (h, oX11 th aw ai ab ac hi re aP ta po en be de fa a5 sp av an ak x1 aW aC ag aT aN aF), (aw, .inl (cI, 2179, .inl fw)), (av, .inl (cI, 400, .inl g8171)), (an, .inl (cI, 10, .inl g3)), (ak, .inl (cI, 10, .inl g4))]) [0, 1, 2, 3, 4, 5] rfl, hD.sub (ws' := [(aC, .inl (cI, 4096, .inl g8170)), (h, oX11 th aw ai ab ac hi re aP ta po en be de fa a5 sp av an ak x1 aW aC ag aT aN aF), (aw, .inl (cI, 2179, .inl fw)), (av, .inl (cI, 400, .inl g8171)), (an, .inl (cI, 10, .inl g3)), (ak, .inl (cI, 10, .inl g4))]) [0, 1, 2, 3, 4, 5] (by decide) rfl, hS, lv_sub (l' := [(3, .int y8169), (2, .int r5473), (1, .int y5465), (0, .ref h)]) hl [0, 1, 2, 3] rfl⟩
            · skip
              have k8214 : Rg r8183 1 1 := rg_n1 (neI c8212) k8184 (rg_lit (n := 0) (by decide)) (by decide)
              refine lv_iload_n hx hb dX11_leastCost_85 rfl (lv_at hl 2 rfl) ?_
              refine lv_iload_n hx hb dX11_leastCost_86 rfl (lv_at hl 0 rfl) ?_
              refine kpurei (wc := []) hP hD hS hA [] rfl (by decide) (fun hPc hDc hFc => va_runS (As := [.int y5465, .int y8169]) (rest := []) ⟨hx, hb, hml, hown, hts⟩ (r_has l D cI cJ cB cC y5465 y8169 H.size) (va_cwS 2 hts gX11_leastCost_X11_has rfl rfl rfl hdX11_has ⟨Nat.le_of_ble_eq_true rfl, Nat.le_of_ble_eq_true rfl⟩) ⟨kBlind, fun U hU hW => ⟨rfl, by rw [hU], hN.warm hW, hE.pass hS hFc hW hU, by rw [hU]; exact hPc, va_K.moved hW.alike hK, hDc⟩⟩ rfl rfl hl.1 rfl (lv_room (Nat.le_of_ble_eq_true rfl)) dX11_leastCost_87 ⟨Nat.le_of_ble_eq_true rfl, Nat.le_of_ble_eq_true rfl⟩) (fun r8215 u H locs hw hP hS => ?_)
              have k8216 := hw
              refine lv_if_ne (tgt := 130) hx hb dX11_leastCost_90 (by decide) (fun c8217 => ?_) (fun c8217 => ?_)
              · skip
                have k8218 : Rg r8215 1 1 := rg_n1 (neI c8217) k8216 (rg_lit (n := 0) (by decide)) (by decide)
                exact hJ130 (g8170, g8171) _ _ _ ⟨hP.sub (ws' := [(aC, .inl (cI, 4096, .inl g8170)), (h, oX11 th aw ai ab ac hi re aP ta po en be de fa a5 sp av an ak x1 aW aC ag aT aN aF), (aw, .inl (cI, 2179, .inl fw)), (av, .inl (cI, 400, .inl g8171)), (an, .inl (cI, 10, .inl g3)), (ak, .inl (cI, 10, .inl g4))]) [0, 1, 2, 3, 4, 5] rfl, hD.sub (ws' := [(aC, .inl (cI, 4096, .inl g8170)), (h, oX11 th aw ai ab ac hi re aP ta po en be de fa a5 sp av an ak x1 aW aC ag aT aN aF), (aw, .inl (cI, 2179, .inl fw)), (av, .inl (cI, 400, .inl g8171)), (an, .inl (cI, 10, .inl g3)), (ak, .inl (cI, 10, .inl g4))]) [0, 1, 2, 3, 4, 5] (by decide) rfl, hS, lv_sub (l' := [(3, .int y8169), (2, .int r5473), (1, .int y5465), (0, .ref h)]) hl [0, 1, 2, 3] rfl⟩
              · skip
                have k8219 : Rg r8215 0 0 := rg_q1 (eqI c8217) k8216 (rg_lit (n := 0) (by decide)) (by decide)
                refine lv_aload_n hx hb dX11_leastCost_93 rfl (lv_at hl 3 rfl) ?_
                refine va_get (D := D) (ci := 10) (v := .ref aC) (C := RX11) (T := TX11) (N := 26) hx hb hts iG_X11 hown hK hP 1 rfl rfl 21 (by decide) (hts _ w5_15) (fun _ h9 => h9) rfl dX11_leastCost_94 ?_
                refine lv_iload_n hx hb dX11_leastCost_97 rfl (lv_at hl 2 rfl) ?_
                refine lv_aload_n hx hb dX11_leastCost_98 rfl (lv_at hl 3 rfl) ?_
                refine va_get (D := D) (ci := 10) (v := .ref aC) (C := RX11) (T := TX11) (N := 26) hx hb hts iG_X11 hown hK hP 1 rfl rfl 21 (by decide) (hts _ w5_15) (fun _ h9 => h9) rfl dX11_leastCost_99 ?_
                refine lv_iload_n hx hb dX11_leastCost_102 rfl (lv_at hl 2 rfl) ?_
                refine va_iald hx hb hK hP 0 0 rfl rfl (rg_in k5472 (by decide)) dX11_leastCost_103 ?_
                refine lv_topi (fun x8220 ex8220 => ?_)
                clear ex8220
                refine lv_aload_n hx hb dX11_leastCost_104 rfl (lv_at hl 3 rfl) ?_
                refine lv_aload_n hx hb dX11_leastCost_105 rfl (lv_at hl 3 rfl) ?_
                refine va_get (D := D) (ci := 10) (v := .ref an) (C := RX11) (T := TX11) (N := 26) hx hb hts iG_X11 hown hK hP 1 rfl rfl 17 (by decide) (hts _ w5_12) (fun _ h9 => h9) rfl dX11_leastCost_106 ?_
                refine lv_iload_n hx hb dX11_leastCost_109 rfl (lv_at hl 1 rfl) ?_
                refine va_iald hx hb hK hP 4 0 rfl rfl (rg_in k8180 (by decide)) dX11_leastCost_110 ?_
                refine lv_topi (fun x8221 ex8221 => ?_)
                have k8222 : Rg x8221 0 9 := wN_rd k6 ex8221
                clear ex8221
                refine lv_iload_n hx hb dX11_leastCost_111 rfl (lv_at hl 0 rfl) ?_
                refine kcalli (wc := [(h, oX11 th aw ai ab ac hi re aP ta po en be de fa a5 sp av an ak x1 aW aC ag aT aN aF), (aw, .inl (cI, 2179, .inl fw)), (av, .inl (cI, 400, .inl g8171))]) (wr := [(aC, .inl (cI, 4096, .inl g8170)), (an, .inl (cI, 10, .inl g3)), (ak, .inl (cI, 10, .inl g4))]) hP hD hS hA [1, 2, 3] [0, 4, 5] rfl rfl (by decide) (by decide) (by decide) (fun hPc hDc hFc => va_runV (As := [.int x8221, .int y8169]) (rest := [.int x8220, .int y5465, .ref aC]) ⟨hx, hb, hml, hown, hts⟩ (r_costOf l D cI cJ cB cC h th aw ai ab ac hi re aP ta po en be de fa a5 sp av an ak x1 aW aC ag aT aN aF fw g8171 x8221 y8169 H.size k8222 k8177 H_fw_W H_fw_L) (cwV 2 hts gX11_leastCost_X11_costOf rfl rfl rfl ⟨rfl, hdX11_costOf⟩ ⟨Nat.le_of_ble_eq_true rfl, Nat.le_of_ble_eq_true rfl⟩) ⟨kBlind, va_recv hK hPc (ci := 10) (q0 := 0) rfl rfl, fun U hU hW => ⟨rfl, by rw [hU], hN.warm hW, hE.pass hS hFc hW hU, by rw [hU]; exact hPc, va_K.moved hW.alike hK, hDc⟩⟩ rfl rfl hl.1 rfl (lv_room (Nat.le_of_ble_eq_true rfl)) dX11_leastCost_112 ⟨Nat.le_of_ble_eq_true rfl, Nat.le_of_ble_eq_true rfl⟩) (fun r8223 u H locs hw hP hD hS => ?_)
                obtain ⟨g8224, rfl⟩ : ∃ z, z = u := ⟨_, rfl⟩
                have hP : va_P D vwCl [(aC, .inl (cI, 4096, .inl g8170)), (an, .inl (cI, 10, .inl g3)), (ak, .inl (cI, 10, .inl g4)), (h, oX11 th aw ai ab ac hi re aP ta po en be de fa a5 sp av an ak x1 aW aC ag aT aN aF), (aw, .inl (cI, 2179, .inl fw)), (av, .inl (cI, 400, .inl g8224))] H := hP
                have hD : va_D A [(aC, .inl (cI, 4096, .inl g8170)), (an, .inl (cI, 10, .inl g3)), (ak, .inl (cI, 10, .inl g4)), (h, oX11 th aw ai ab ac hi re aP ta po en be de fa a5 sp av an ak x1 aW aC ag aT aN aF), (aw, .inl (cI, 2179, .inl fw)), (av, .inl (cI, 400, .inl g8224))] := hD
                refine lv_aload_n hx hb dX11_leastCost_115 rfl (lv_at hl 3 rfl) ?_
                refine va_get (D := D) (ci := 10) (v := .ref aC) (C := RX11) (T := TX11) (N := 26) hx hb hts iG_X11 hown hK hP 3 rfl rfl 21 (by decide) (hts _ w5_15) (fun _ h9 => h9) rfl dX11_leastCost_116 ?_
                refine lv_iload_n hx hb dX11_leastCost_119 rfl (lv_at hl 2 rfl) ?_
                refine lv_iconst (v := 1) hx hb dX11_leastCost_120 (by decide) ?_
                refine lv_iload_n hx hb dX11_leastCost_121 rfl (lv_at hl 0 rfl) ?_
                refine lv_ishl hx hb dX11_leastCost_122 ?_
                refine lv_topi (fun x8225 ex8225 => ?_)
                have k8226 : Rg x8225 1 2048 := rg_shl1 11 ex8225 k8177 (by decide)
                clear ex8225
                refine lv_ior hx hb dX11_leastCost_123 ?_
                refine lv_topi (fun x8227 ex8227 => ?_)
                have k8228 : Rg x8227 0 4095 := rg_or 12 ex8227 k5472 k8226 (by decide)
                clear ex8227
                refine va_iald hx hb hK hP 0 0 rfl rfl (rg_in k8228 (by decide)) dX11_leastCost_124 ?_
                refine lv_topi (fun x8229 ex8229 => ?_)
                clear ex8229
                refine lv_iadd hx hb dX11_leastCost_125 ?_
                refine lv_topi (fun x8230 ex8230 => ?_)
                clear ex8230
                refine va_mmin hx hb (by rw [hml]; exact hl.1.symm) hown (hts _ w34_13) (hts _ w24_21) (hts _ w8_7) (hts _ w24_22) (Nat.le_of_ble_eq_true rfl) (Nat.le_of_ble_eq_true rfl) (Nat.le_of_ble_eq_true rfl) (Nat.le_of_ble_eq_true rfl) dX11_leastCost_126 ?_
                refine lv_topi (fun x8231 ex8231 => ?_)
                refine va_iast hx hb hK hP hD hS 0 0 rfl rfl (rg_in k5472 (by decide)) dX11_leastCost_129 (fun H locs hP hD hS => ?_)
                have hP : va_P D vwCl [(aC, .inl (cI, 4096, .inl (upd g8170 y5465.toNatClampNeg x8231))), (an, .inl (cI, 10, .inl g3)), (ak, .inl (cI, 10, .inl g4)), (h, oX11 th aw ai ab ac hi re aP ta po en be de fa a5 sp av an ak x1 aW aC ag aT aN aF), (aw, .inl (cI, 2179, .inl fw)), (av, .inl (cI, 400, .inl g8224))] H := hP
                have hD : va_D A [(aC, .inl (cI, 4096, .inl (upd g8170 y5465.toNatClampNeg x8231))), (an, .inl (cI, 10, .inl g3)), (ak, .inl (cI, 10, .inl g4)), (h, oX11 th aw ai ab ac hi re aP ta po en be de fa a5 sp av an ak x1 aW aC ag aT aN aF), (aw, .inl (cI, 2179, .inl fw)), (av, .inl (cI, 400, .inl g8224))] := hD
                generalize hge : (upd g8170 y5465.toNatClampNeg x8231) = g8232 at hP hD
                clear hge
                exact hJ130 (g8232, g8224) _ _ _ ⟨hP.sub (ws' := [(aC, .inl (cI, 4096, .inl g8232)), (h, oX11 th aw ai ab ac hi re aP ta po en be de fa a5 sp av an ak x1 aW aC ag aT aN aF), (aw, .inl (cI, 2179, .inl fw)), (av, .inl (cI, 400, .inl g8224)), (an, .inl (cI, 10, .inl g3)), (ak, .inl (cI, 10, .inl g4))]) [0, 3, 4, 5, 1, 2] rfl, hD.sub (ws' := [(aC, .inl (cI, 4096, .inl g8232)), (h, oX11 th aw ai ab ac hi re aP ta po en be de fa a5 sp av an ak x1 aW aC ag aT aN aF), (aw, .inl (cI, 2179, .inl fw)), (av, .inl (cI, 400, .inl g8224)), (an, .inl (cI, 10, .inl g3)), (ak, .inl (cI, 10, .inl g4))]) [0, 3, 4, 5, 1, 2] (by decide) rfl, hS, lv_sub (l' := [(3, .int y8169), (2, .int r5473), (1, .int y5465), (0, .ref h)]) hl [0, 1, 2, 3] rfl⟩
    · skip
      have k8233 : Rg r5473 1 63 := rg_l2 (nleI c6833) k5 k5474 (by decide)
      refine lv_goto (tgt := 136) hx hb dX11_leastCost_30 (by decide) ?_
      exact hJ136 (g5466, g5467) _ _ _ ⟨hP.sub (ws' := [(aC, .inl (cI, 4096, .inl g5466)), (h, oX11 th aw ai ab ac hi re aP ta po en be de fa a5 sp av an ak x1 aW aC ag aT aN aF), (aw, .inl (cI, 2179, .inl fw)), (av, .inl (cI, 400, .inl g5467)), (an, .inl (cI, 10, .inl g3)), (ak, .inl (cI, 10, .inl g4))]) [0, 1, 2, 3, 4, 5] rfl, hD.sub (ws' := [(aC, .inl (cI, 4096, .inl g5466)), (h, oX11 th aw ai ab ac hi re aP ta po en be de fa a5 sp av an ak x1 aW aC ag aT aN aF), (aw, .inl (cI, 2179, .inl fw)), (av, .inl (cI, 400, .inl g5467)), (an, .inl (cI, 10, .inl g3)), (ak, .inl (cI, 10, .inl g4))]) [0, 1, 2, 3, 4, 5] (by decide) rfl, hS, lv_sub (l' := [(2, .int r5473), (1, .int y5465), (0, .ref h)]) hl [0, 1, 2] rfl⟩

