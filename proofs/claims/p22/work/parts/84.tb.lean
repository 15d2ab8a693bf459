def kwX11_plan : List Cond := .code yX11_plan cX11_plan 3 (some .int) :: kG
theorem hdX11_plan : yX11_plan.cls ≠ "java/lang/invoke/MethodHandle" ∧ yX11_plan.cls ≠ "java/lang/invoke/VarHandle" ∧ (parseMethodDescriptor yX11_plan.desc).map (fun d => d.parameters.length) = some 2 := by decide +kernel
theorem gX11_plan_X11_noMan : GoodIn kG (wsV RX11 280 RX11 yX11_noMan kwX11_noMan) := gK w27_4 (gK w27_5 (gK w27_6 (gK w0_5 (gK w27_7 gGG))))
theorem gX11_plan_X11_plans : GoodIn kG (wsV RX11 342 RX11 yX11_plans kwX11_plans) := gK w42_8 (gK w42_9 (gK w42_10 (gK w0_5 (gK w42_11 gGG))))
theorem gX11_plan_X11_throwsIf : GoodIn kG (wsV RX11 258 RX11 yX11_throwsIf kwX11_throwsIf) := gK w23_6 (gK w23_7 (gK w23_8 (gK w0_5 (gK w23_9 gGG))))
theorem dX11_plan_0 : decode cX11_plan 0 = .ok (.aload_n 0, 1) := by decide +kernel
theorem dX11_plan_1 : decode cX11_plan 1 = .ok (.iconst 0, 1) := by decide +kernel
theorem dX11_plan_2 : decode cX11_plan 2 = .ok (.putfield 3, 3) := by decide +kernel
theorem dX11_plan_5 : decode cX11_plan 5 = .ok (.aload_n 0, 1) := by decide +kernel
theorem dX11_plan_6 : decode cX11_plan 6 = .ok (.aload_n 0, 1) := by decide +kernel
theorem dX11_plan_7 : decode cX11_plan 7 = .ok (.iload_n 1, 1) := by decide +kernel
theorem dX11_plan_8 : decode cX11_plan 8 = .ok (.invokevirtual 280, 3) := by decide +kernel
theorem dX11_plan_11 : decode cX11_plan 11 = .ok (.iconst 1, 1) := by decide +kernel
theorem dX11_plan_12 : decode cX11_plan 12 = .ok (.invokevirtual 258, 3) := by decide +kernel
theorem dX11_plan_15 : decode cX11_plan 15 = .ok (.ifCond .eq 5, 3) := by decide +kernel
theorem dX11_plan_18 : decode cX11_plan 18 = .ok (.iconst 0, 1) := by decide +kernel
theorem dX11_plan_19 : decode cX11_plan 19 = .ok (.ireturn, 1) := by decide +kernel
theorem dX11_plan_20 : decode cX11_plan 20 = .ok (.aload_n 0, 1) := by decide +kernel
theorem dX11_plan_21 : decode cX11_plan 21 = .ok (.iload_n 2, 1) := by decide +kernel
theorem dX11_plan_22 : decode cX11_plan 22 = .ok (.invokevirtual 342, 3) := by decide +kernel
theorem dX11_plan_25 : decode cX11_plan 25 = .ok (.ifCond .eq 12, 3) := by decide +kernel
theorem dX11_plan_28 : decode cX11_plan 28 = .ok (.aload_n 0, 1) := by decide +kernel
theorem dX11_plan_29 : decode cX11_plan 29 = .ok (.getfield 52, 3) := by decide +kernel
theorem dX11_plan_32 : decode cX11_plan 32 = .ok (.iload_n 1, 1) := by decide +kernel
theorem dX11_plan_33 : decode cX11_plan 33 = .ok (.iaload, 1) := by decide +kernel
theorem dX11_plan_34 : decode cX11_plan 34 = .ok (.goto 4, 3) := by decide +kernel
theorem dX11_plan_37 : decode cX11_plan 37 = .ok (.iconst (-1), 1) := by decide +kernel
theorem dX11_plan_38 : decode cX11_plan 38 = .ok (.ireturn, 1) := by decide +kernel
set_option maxHeartbeats 4000000 in
set_option maxRecDepth 100000 in
/-- reference: plan -/
theorem r_plan0 (l : Launch) (D : va_G) (cI cJ cB cC : ClassId) (h : Nat) (th : Int32) (aw : Nat) (ai : Nat) (ab : Nat) (ac : Nat) (hi : Int32) (re : Int32) (aP : Nat) (ta : Int32) (po : Int32) (en : Int32) (be : Int32) (de : Int32) (fa : Int32) (a5 : Nat) (sp : Int32) (av : Nat) (an : Nat) (ak : Nat) (ne : Int32) (aW : Nat) (aC : Nat) (ag : Nat) (aT : Nat) (aN : Nat) (aF : Nat) (fw : Nat → Int32) (fv : Nat → Int32) (fn : Nat → Int32) (fk : Nat → Int32) (fW : Nat → Int64) (fC : Nat → Int32) (fg : Nat → Int32) (a1 : Int32) (sz : Nat) (H_fw_W : wW fw) (H_fw_L : wL fw) (H_fn_N : wN fn) (H_fk_K : wK fk) (H_fC_F : wF fC) : Met l yX11_plan kwX11_plan ({ frames := 10, cells := 0, slots := 0, locals := 235 } : Room) (kPre D (kT cI cJ cB cC) sz [(h, oX11 th aw ai ab ac hi re aP ta po en be de fa a5 sp av an ak ne aW aC ag aT aN aF), (aw, kcI cI 2179 fw), (av, kcI cI 400 fv), (an, kcI cI 10 fn), (ak, kcI cI 10 fk), (aW, kcJ cJ 4096 fW), (aC, kcI cI 4096 fC), (ag, kcI cI 10 fg)] [.ref h, .int a1, .int 0]) (va_Qi (fun (r : Int32) (uu : Int32 × Int32 × (Nat → Int32) × (Nat → Int32) × (Nat → Int32) × (Nat → Int64) × (Nat → Int32) × (Nat → Int32)) => match uu with | (n0_, n1_, f2_, f3_, f4_, f5_, f6_, f7_) => wN f3_ ∧ wK f4_ ∧ wF f6_ ∧ F_r_plan0 (ne : Int32).toInt (gT fw) (gT fv) (gT fn) (gT fk) fW (gT fC) (gT fg) (a1 : Int32).toInt = ((r : Int32).toInt, (n0_ : Int32).toInt, (n1_ : Int32).toInt, (gT f2_), (gT f3_), (gT f4_), f5_, (gT f6_), (gT f7_))) (fun (uu : Int32 × Int32 × (Nat → Int32) × (Nat → Int32) × (Nat → Int32) × (Nat → Int64) × (Nat → Int32) × (Nat → Int32)) (t : State) => match uu with | (n0_, n1_, f2_, f3_, f4_, f5_, f6_, f7_) => kB D (kT cI cJ cB cC) (va_A [(h, oX11 th aw ai ab ac hi re aP ta po en be de fa a5 sp av an ak ne aW aC ag aT aN aF), (aw, kcI cI 2179 fw), (av, kcI cI 400 fv), (an, kcI cI 10 fn), (ak, kcI cI 10 fk), (aW, kcJ cJ 4096 fW), (aC, kcI cI 4096 fC), (ag, kcI cI 10 fg)] sz) [(h, oX11 n0_ aw ai ab ac hi re aP ta po en be de fa a5 sp av an ak n1_ aW aC ag aT aN aF), (aw, kcI cI 2179 fw), (av, kcI cI 400 f2_), (an, kcI cI 10 f3_), (ak, kcI cI 10 f4_), (aW, kcJ cJ 4096 f5_), (aC, kcI cI 4096 f6_), (ag, kcI cI 10 f7_)] t) (va_A [(h, oX11 th aw ai ab ac hi re aP ta po en be de fa a5 sp av an ak ne aW aC ag aT aN aF), (aw, kcI cI 2179 fw), (av, kcI cI 400 fv), (an, kcI cI 10 fn), (ak, kcI cI 10 fk), (aW, kcJ cJ 4096 fW), (aC, kcI cI 4096 fC), (ag, kcI cI 10 fg)] sz)) 0 0 (va_A [(h, oX11 th aw ai ab ac hi re aP ta po en be de fa a5 sp av an ak ne aW aC ag aT aN aF), (aw, kcI cI 2179 fw), (av, kcI cI 400 fv), (an, kcI cI 10 fn), (ak, kcI cI 10 fk), (aW, kcJ cJ 4096 fW), (aC, kcI cI 4096 fC), (ag, kcI cI 10 fg)] sz) := by
  refine Met.ofW (cc := cX11_plan) (maxL := 3) (ret := (some .int)) (by decide) rfl ?_
  intro p e s m args below meth c s₁ B hml hv
  obtain ⟨rfl, hsz, hN, hE, hP, hK, hD0⟩ := hv
  have hx := B.exec
  have hb := B.bytes
  have hr := B.returns
  have hts := fun (w : Cond) (h : w ∈ kG) => atoms_spec (ws := kwX11_plan) B.pre w (List.mem_cons_of_mem _ h)
  have hown : s.vm.findClass RX11 = some m.cls := findClass_of_methodNamed B.named
  subst hsz
  have hD := hD0.self (sz := s.heap.size)
  generalize hAe : va_A [(h, oX11 th aw ai ab ac hi re aP ta po en be de fa a5 sp av an ak ne aW aC ag aT aN aF), (aw, kcI cI 2179 fw), (av, kcI cI 400 fv), (an, kcI cI 10 fn), (ak, kcI cI 10 fk), (aW, kcJ cJ 4096 fW), (aC, kcI cI 4096 fC), (ag, kcI cI 10 fg)] s.heap.size = A at hD hE ⊢
  have hA : ∀ q : Nat, s.heap.size ≤ q → A q := fun q h => by rw [← hAe]; exact Or.inr h
  have hl := lv_entry ([.ref h, .int a1, .int 0]) (n := 3) (Nat.le_of_ble_eq_true rfl)
  rw [lg_entry_eq]
  generalize (lg_sl ([.ref h, .int a1, .int 0]) ++ List.replicate (3 - (lg_sl ([.ref h, .int a1, .int 0])).length) Slot.unset).toArray = ls at hl ⊢
  have hl : lv_has ls 3 [(0, .ref h), (1, .int a1), (2, .int 0)] := hl
  obtain ⟨H, hH0⟩ : ∃ H, H = s.heap := ⟨_, rfl⟩
  have hS : va_S A s.heap H [] := by rw [hH0]; exact va_S.rf
  have hP : va_P D vwCl [(h, oX11 th aw ai ab ac hi re aP ta po en be de fa a5 sp av an ak ne aW aC ag aT aN aF), (aw, kcI cI 2179 fw), (av, kcI cI 400 fv), (an, kcI cI 10 fn), (ak, kcI cI 10 fk), (aW, kcJ cJ 4096 fW), (aC, kcI cI 4096 fC), (ag, kcI cI 10 fg)] H := by rw [hH0]; exact hP
  refine kHeap hH0 ?_
  clear hH0
  refine lv_aload_n hx hb dX11_plan_0 rfl (lv_at hl 0 rfl) ?_
  refine lv_iconst (v := 0) hx hb dX11_plan_1 (by decide) ?_
  refine va_put (D := D) (ci := 10) (v := .int 0) (ty := .int) (C := RX11) (T := TX11) (N := 26) hx hb hts iG_X11 tyX11 tyX11_ok nmX11 hown hK hP hD hS 0 rfl rfl 0 (by decide) (hts _ w6_8) (fun _ h9 => h9) rfl (by decide +kernel) rfl rfl (Nat.le_of_ble_eq_true rfl) dX11_plan_2 (fun H locs hP hD hS => ?_)
  have hP : va_P D vwCl [(h, oX11 0 aw ai ab ac hi re aP ta po en be de fa a5 sp av an ak ne aW aC ag aT aN aF), (aw, kcI cI 2179 fw), (av, kcI cI 400 fv), (an, kcI cI 10 fn), (ak, kcI cI 10 fk), (aW, kcJ cJ 4096 fW), (aC, kcI cI 4096 fC), (ag, kcI cI 10 fg)] H := hP
  have hD : va_D A [(h, oX11 0 aw ai ab ac hi re aP ta po en be de fa a5 sp av an ak ne aW aC ag aT aN aF), (aw, kcI cI 2179 fw), (av, kcI cI 400 fv), (an, kcI cI 10 fn), (ak, kcI cI 10 fk), (aW, kcJ cJ 4096 fW), (aC, kcI cI 4096 fC), (ag, kcI cI 10 fg)] := hD
  refine lv_aload_n hx hb dX11_plan_5 rfl (lv_at hl 0 rfl) ?_
  refine lv_aload_n hx hb dX11_plan_6 rfl (lv_at hl 0 rfl) ?_
  refine lv_iload_n hx hb dX11_plan_7 rfl (lv_at hl 1 rfl) ?_
  refine kpurei (wc := [(h, oX11 0 aw ai ab ac hi re aP ta po en be de fa a5 sp av an ak ne aW aC ag aT aN aF), (aw, kcI cI 2179 fw)]) hP hD hS hA [0, 1] rfl (by decide) (fun hPc hDc hFc => va_runV (As := [.int a1]) (rest := [.ref h]) ⟨hx, hb, hml, hown, hts⟩ (r_noMan l D cI cJ cB cC h 0 aw ai ab ac hi re aP ta po en be de fa a5 sp av an ak ne aW aC ag aT aN aF fw a1 H.size H_fw_W) (cwV 1 hts gX11_plan_X11_noMan rfl rfl rfl ⟨rfl, hdX11_noMan⟩ ⟨Nat.le_of_ble_eq_true rfl, Nat.le_of_ble_eq_true rfl⟩) ⟨kBlind, va_recv hK hPc (ci := 10) (q0 := 0) rfl rfl, fun U hU hW => ⟨rfl, by rw [hU], hN.warm hW, hE.pass hS hFc hW hU, by rw [hU]; exact hPc, va_K.moved hW.alike hK, hDc⟩⟩ rfl rfl hl.1 rfl (lv_room (Nat.le_of_ble_eq_true rfl)) dX11_plan_8 ⟨Nat.le_of_ble_eq_true rfl, Nat.le_of_ble_eq_true rfl⟩) (fun r1 u H locs hw hP hS => ?_)
  obtain ⟨k2, hw⟩ := hw
  rcases hw with ⟨rfl, kc3_0, kc3_1⟩ | rfl
  · skip
    refine lv_iconst (v := 1) hx hb dX11_plan_11 (by decide) ?_
    refine kpurei (wc := [(h, oX11 0 aw ai ab ac hi re aP ta po en be de fa a5 sp av an ak ne aW aC ag aT aN aF)]) hP hD hS hA [0] rfl (by decide) (fun hPc hDc hFc => va_runV (As := [.int 0, .int 1]) (rest := []) ⟨hx, hb, hml, hown, hts⟩ (r_throwsIf0_1 l D cI cJ cB cC h 0 aw ai ab ac hi re aP ta po en be de fa a5 sp av an ak ne aW aC ag aT aN aF 1 H.size) (cwV 2 hts gX11_plan_X11_throwsIf rfl rfl rfl ⟨rfl, hdX11_throwsIf⟩ ⟨Nat.le_of_ble_eq_true rfl, Nat.le_of_ble_eq_true rfl⟩) ⟨kBlind, va_recv hK hPc (ci := 10) (q0 := 0) rfl rfl, fun U hU hW => ⟨rfl, by rw [hU], hN.warm hW, hE.pass hS hFc hW hU, by rw [hU]; exact hPc, va_K.moved hW.alike hK, hDc⟩⟩ rfl rfl hl.1 rfl (lv_room (Nat.le_of_ble_eq_true rfl)) dX11_plan_12 ⟨Nat.le_of_ble_eq_true rfl, Nat.le_of_ble_eq_true rfl⟩) (fun r4 u H locs hw hP hS => ?_)
    obtain ⟨k5, k6⟩ := hw
    refine lv_if_eq (tgt := 20) hx hb dX11_plan_15 (by decide) (fun _ => ?_) (fun c7 => absurd (rg_eq k5 (rg_lit (n := 0) (by decide)) (by decide)) c7)
    refine lv_aload_n hx hb dX11_plan_20 rfl (lv_at hl 0 rfl) ?_
    refine lv_iload_n hx hb dX11_plan_21 rfl (lv_at hl 2 rfl) ?_
    refine kcalli (wc := [(h, oX11 0 aw ai ab ac hi re aP ta po en be de fa a5 sp av an ak ne aW aC ag aT aN aF), (aw, kcI cI 2179 fw), (av, kcI cI 400 fv), (an, kcI cI 10 fn), (ak, kcI cI 10 fk), (aW, kcJ cJ 4096 fW), (aC, kcI cI 4096 fC), (ag, kcI cI 10 fg)]) (wr := []) hP hD hS hA [0, 1, 2, 3, 4, 5, 6, 7] [] rfl rfl (by decide) (by decide) (by decide) (fun hPc hDc hFc => va_runV (As := [.int 0]) (rest := []) ⟨hx, hb, hml, hown, hts⟩ (r_plans0 l D cI cJ cB cC h 0 aw ai ab ac hi re aP ta po en be de fa a5 sp av an ak ne aW aC ag aT aN aF fw fv fn fk fW fC fg H.size H_fw_W H_fw_L H_fn_N H_fk_K H_fC_F) (cwV 1 hts gX11_plan_X11_plans rfl rfl rfl ⟨rfl, hdX11_plans⟩ ⟨Nat.le_of_ble_eq_true rfl, Nat.le_of_ble_eq_true rfl⟩) ⟨kBlind, va_recv hK hPc (ci := 10) (q0 := 0) rfl rfl, fun U hU hW => ⟨rfl, by rw [hU], hN.warm hW, hE.pass hS hFc hW hU, by rw [hU]; exact hPc, va_K.moved hW.alike hK, hDc⟩⟩ rfl rfl hl.1 rfl (lv_room (Nat.le_of_ble_eq_true rfl)) dX11_plan_22 ⟨Nat.le_of_ble_eq_true rfl, Nat.le_of_ble_eq_true rfl⟩) (fun r8 u H locs hw hP hD hS => ?_)
    obtain ⟨x9, g10, g11, g12, g13, g14, g15⟩ := u
    have hP : va_P D vwCl [(h, oX11 0 aw ai ab ac hi re aP ta po en be de fa a5 sp av an ak x9 aW aC ag aT aN aF), (aw, kcI cI 2179 fw), (av, kcI cI 400 g10), (an, kcI cI 10 g11), (ak, kcI cI 10 g12), (aW, kcJ cJ 4096 g13), (aC, kcI cI 4096 g14), (ag, kcI cI 10 g15)] H := hP
    have hD : va_D A [(h, oX11 0 aw ai ab ac hi re aP ta po en be de fa a5 sp av an ak x9 aW aC ag aT aN aF), (aw, kcI cI 2179 fw), (av, kcI cI 400 g10), (an, kcI cI 10 g11), (ak, kcI cI 10 g12), (aW, kcJ cJ 4096 g13), (aC, kcI cI 4096 g14), (ag, kcI cI 10 g15)] := hD
    obtain ⟨k16, k17, k18, k19, k20, hw⟩ := hw
    rcases hw with rfl | ⟨rfl, kc21_0⟩
    · skip
      refine lv_if_eq (tgt := 37) hx hb dX11_plan_25 (by decide) (fun _ => ?_) (fun c23 => absurd (by decide) c23)
      refine lv_iconst (v := (-1)) hx hb dX11_plan_37 (by decide) ?_
      have hP9 := hP.sub (ws' := [(h, oX11 0 aw ai ab ac hi re aP ta po en be de fa a5 sp av an ak x9 aW aC ag aT aN aF), (aw, kcI cI 2179 fw), (av, kcI cI 400 g10), (an, kcI cI 10 g11), (ak, kcI cI 10 g12), (aW, kcJ cJ 4096 g13), (aC, kcI cI 4096 g14), (ag, kcI cI 10 g15)]) [0, 1, 2, 3, 4, 5, 6, 7] rfl
      have hD9 := hD.sub (ws' := [(h, oX11 0 aw ai ab ac hi re aP ta po en be de fa a5 sp av an ak x9 aW aC ag aT aN aF), (aw, kcI cI 2179 fw), (av, kcI cI 400 g10), (an, kcI cI 10 g11), (ak, kcI cI 10 g12), (aW, kcJ cJ 4096 g13), (aC, kcI cI 4096 g14), (ag, kcI cI 10 g15)]) [0, 1, 2, 3, 4, 5, 6, 7] (by decide) rfl
      exact W.iret (v := (-1)) hx hb hr (fun t ht hW => ⟨⟨(-1), ((0 : Int32), x9, g10, g11, g12, g13, g14, g15), rfl, ⟨k17, k18, k19, (kLet_eq (k2).symm (kif_t rfl (kLet_eq (k6).symm (kC_eq k20 (kC_eq rfl (kC_eq rfl (kC_eq rfl (kC_eq rfl (kC_eq rfl (kC_eq rfl (kif_t rfl rfl)))))))))))⟩, by rw [ht]; exact hP9, va_K.moved hW.alike hK, hD9⟩, hS.F ht⟩) hS.2.2 dX11_plan_38
    · skip
      refine lv_if_eq (tgt := 37) hx hb dX11_plan_25 (by decide) (fun c26 => absurd c26 (by decide)) (fun _ => ?_)
      refine lv_aload_n hx hb dX11_plan_28 rfl (lv_at hl 0 rfl) ?_
      refine va_get (D := D) (ci := 10) (v := .ref ag) (C := RX11) (T := TX11) (N := 26) hx hb hts iG_X11 hown hK hP 0 rfl rfl 22 (by decide) (hts _ w5_16) (fun _ h9 => h9) rfl dX11_plan_29 ?_
      refine lv_iload_n hx hb dX11_plan_32 rfl (lv_at hl 1 rfl) ?_
      refine va_iald hx hb hK hP 7 0 rfl rfl (rg_in kc3_0 (by decide)) dX11_plan_33 ?_
      refine lv_topi (fun x27 ex27 => ?_)
      refine lv_goto (tgt := 38) hx hb dX11_plan_34 (by decide) ?_
      have hP9 := hP.sub (ws' := [(h, oX11 0 aw ai ab ac hi re aP ta po en be de fa a5 sp av an ak x9 aW aC ag aT aN aF), (aw, kcI cI 2179 fw), (av, kcI cI 400 g10), (an, kcI cI 10 g11), (ak, kcI cI 10 g12), (aW, kcJ cJ 4096 g13), (aC, kcI cI 4096 g14), (ag, kcI cI 10 g15)]) [0, 1, 2, 3, 4, 5, 6, 7] rfl
      have hD9 := hD.sub (ws' := [(h, oX11 0 aw ai ab ac hi re aP ta po en be de fa a5 sp av an ak x9 aW aC ag aT aN aF), (aw, kcI cI 2179 fw), (av, kcI cI 400 g10), (an, kcI cI 10 g11), (ak, kcI cI 10 g12), (aW, kcJ cJ 4096 g13), (aC, kcI cI 4096 g14), (ag, kcI cI 10 g15)]) [0, 1, 2, 3, 4, 5, 6, 7] (by decide) rfl
      exact W.iret (v := x27) hx hb hr (fun t ht hW => ⟨⟨x27, ((0 : Int32), x9, g10, g11, g12, g13, g14, g15), rfl, ⟨k17, k18, k19, (kLet_eq (k2).symm (kif_t rfl (kLet_eq (k6).symm (kC_eq k20 (kC_eq rfl (kC_eq rfl (kC_eq rfl (kC_eq rfl (kC_eq rfl (kC_eq rfl (kif_f (by decide) (kLet_eq (ke_ld ex27) rfl))))))))))))⟩, by rw [ht]; exact hP9, va_K.moved hW.alike hK, hD9⟩, hS.F ht⟩) hS.2.2 dX11_plan_38
  · skip
    refine lv_iconst (v := 1) hx hb dX11_plan_11 (by decide) ?_
    refine kcalli (wc := [(h, oX11 0 aw ai ab ac hi re aP ta po en be de fa a5 sp av an ak ne aW aC ag aT aN aF)]) (wr := [(aw, kcI cI 2179 fw), (av, kcI cI 400 fv), (an, kcI cI 10 fn), (ak, kcI cI 10 fk), (aW, kcJ cJ 4096 fW), (aC, kcI cI 4096 fC), (ag, kcI cI 10 fg)]) hP hD hS hA [0] [1, 2, 3, 4, 5, 6, 7] rfl rfl (by decide) (by decide) (by decide) (fun hPc hDc hFc => va_runV (As := [.int 1, .int 1]) (rest := []) ⟨hx, hb, hml, hown, hts⟩ (r_throwsIf1_1 l D cI cJ cB cC h 0 aw ai ab ac hi re aP ta po en be de fa a5 sp av an ak ne aW aC ag aT aN aF 1 H.size) (cwV 2 hts gX11_plan_X11_throwsIf rfl rfl rfl ⟨rfl, hdX11_throwsIf⟩ ⟨Nat.le_of_ble_eq_true rfl, Nat.le_of_ble_eq_true rfl⟩) ⟨kBlind, va_recv hK hPc (ci := 10) (q0 := 0) rfl rfl, fun U hU hW => ⟨rfl, by rw [hU], hN.warm hW, hE.pass hS hFc hW hU, by rw [hU]; exact hPc, va_K.moved hW.alike hK, hDc⟩⟩ rfl rfl hl.1 rfl (lv_room (Nat.le_of_ble_eq_true rfl)) dX11_plan_12 ⟨Nat.le_of_ble_eq_true rfl, Nat.le_of_ble_eq_true rfl⟩) (fun r28 u H locs hw hP hD hS => ?_)
    obtain ⟨x29, rfl⟩ : ∃ z, z = u := ⟨_, rfl⟩
    have hP : va_P D vwCl [(aw, kcI cI 2179 fw), (av, kcI cI 400 fv), (an, kcI cI 10 fn), (ak, kcI cI 10 fk), (aW, kcJ cJ 4096 fW), (aC, kcI cI 4096 fC), (ag, kcI cI 10 fg), (h, oX11 x29 aw ai ab ac hi re aP ta po en be de fa a5 sp av an ak ne aW aC ag aT aN aF)] H := hP
    have hD : va_D A [(aw, kcI cI 2179 fw), (av, kcI cI 400 fv), (an, kcI cI 10 fn), (ak, kcI cI 10 fk), (aW, kcJ cJ 4096 fW), (aC, kcI cI 4096 fC), (ag, kcI cI 10 fg), (h, oX11 x29 aw ai ab ac hi re aP ta po en be de fa a5 sp av an ak ne aW aC ag aT aN aF)] := hD
    obtain ⟨k30, k31⟩ := hw
    refine lv_if_eq (tgt := 20) hx hb dX11_plan_15 (by decide) (fun c32 => absurd c32 (rg_neq k30 (rg_lit (n := 0) (by decide)) (by decide))) (fun _ => ?_)
    refine lv_iconst (v := 0) hx hb dX11_plan_18 (by decide) ?_
    have hP9 := hP.sub (ws' := [(h, oX11 x29 aw ai ab ac hi re aP ta po en be de fa a5 sp av an ak ne aW aC ag aT aN aF), (aw, kcI cI 2179 fw), (av, kcI cI 400 fv), (an, kcI cI 10 fn), (ak, kcI cI 10 fk), (aW, kcJ cJ 4096 fW), (aC, kcI cI 4096 fC), (ag, kcI cI 10 fg)]) [7, 0, 1, 2, 3, 4, 5, 6] rfl
    have hD9 := hD.sub (ws' := [(h, oX11 x29 aw ai ab ac hi re aP ta po en be de fa a5 sp av an ak ne aW aC ag aT aN aF), (aw, kcI cI 2179 fw), (av, kcI cI 400 fv), (an, kcI cI 10 fn), (ak, kcI cI 10 fk), (aW, kcJ cJ 4096 fW), (aC, kcI cI 4096 fC), (ag, kcI cI 10 fg)]) [7, 0, 1, 2, 3, 4, 5, 6] (by decide) rfl
    exact W.iret (v := 0) hx hb hr (fun t ht hW => ⟨⟨0, (x29, ne, fv, fn, fk, fW, fC, fg), rfl, ⟨H_fn_N, H_fk_K, H_fC_F, (kLet_eq (k2).symm (kif_f (by decide) (kC_eq k31 rfl)))⟩, by rw [ht]; exact hP9, va_K.moved hW.alike hK, hD9⟩, hS.F ht⟩) hS.2.2 dX11_plan_19

def kwX11_hand : List Cond := .code yX11_hand cX11_hand 3 (some .int) :: kG
theorem hdX11_hand : yX11_hand.cls ≠ "java/lang/invoke/MethodHandle" ∧ yX11_hand.cls ≠ "java/lang/invoke/VarHandle" ∧ (parseMethodDescriptor yX11_hand.desc).map (fun d => d.parameters.length) = some 1 := by decide +kernel
theorem gX11_hand_X11_gives : GoodIn kG (wsV RX11 307 RX11 yX11_gives kwX11_gives) := gK w35_9 (gK w35_10 (gK w35_11 (gK w0_5 (gK w35_12 gGG))))
theorem gX11_hand_X11_plans : GoodIn kG (wsV RX11 342 RX11 yX11_plans kwX11_plans) := gK w42_8 (gK w42_9 (gK w42_10 (gK w0_5 (gK w42_11 gGG))))
theorem gX11_hand_X11_remembers : GoodIn kG (wsV RX11 298 RX11 yX11_remembers kwX11_remembers) := gK w34_0 (gK w34_1 (gK w34_2 (gK w0_5 (gK w34_3 gGG))))
theorem gX11_hand_X11_throwsIf : GoodIn kG (wsV RX11 258 RX11 yX11_throwsIf kwX11_throwsIf) := gK w23_6 (gK w23_7 (gK w23_8 (gK w0_5 (gK w23_9 gGG))))
theorem dX11_hand_0 : decode cX11_hand 0 = .ok (.aload_n 0, 1) := by decide +kernel
theorem dX11_hand_1 : decode cX11_hand 1 = .ok (.iconst 0, 1) := by decide +kernel
theorem dX11_hand_2 : decode cX11_hand 2 = .ok (.putfield 3, 3) := by decide +kernel
theorem dX11_hand_5 : decode cX11_hand 5 = .ok (.aload_n 0, 1) := by decide +kernel
theorem dX11_hand_6 : decode cX11_hand 6 = .ok (.aload_n 0, 1) := by decide +kernel
theorem dX11_hand_7 : decode cX11_hand 7 = .ok (.iload_n 1, 1) := by decide +kernel
theorem dX11_hand_8 : decode cX11_hand 8 = .ok (.invokevirtual 342, 3) := by decide +kernel
theorem dX11_hand_11 : decode cX11_hand 11 = .ok (.ifCond .ne 7, 3) := by decide +kernel
theorem dX11_hand_14 : decode cX11_hand 14 = .ok (.iconst 1, 1) := by decide +kernel
theorem dX11_hand_15 : decode cX11_hand 15 = .ok (.goto 4, 3) := by decide +kernel
theorem dX11_hand_18 : decode cX11_hand 18 = .ok (.iconst 0, 1) := by decide +kernel
theorem dX11_hand_19 : decode cX11_hand 19 = .ok (.iconst 1, 1) := by decide +kernel
theorem dX11_hand_20 : decode cX11_hand 20 = .ok (.invokevirtual 258, 3) := by decide +kernel
theorem dX11_hand_23 : decode cX11_hand 23 = .ok (.ifCond .eq 5, 3) := by decide +kernel
theorem dX11_hand_26 : decode cX11_hand 26 = .ok (.iconst 0, 1) := by decide +kernel
theorem dX11_hand_27 : decode cX11_hand 27 = .ok (.ireturn, 1) := by decide +kernel
theorem dX11_hand_28 : decode cX11_hand 28 = .ok (.aload_n 0, 1) := by decide +kernel
theorem dX11_hand_29 : decode cX11_hand 29 = .ok (.invokevirtual 298, 3) := by decide +kernel
theorem dX11_hand_32 : decode cX11_hand 32 = .ok (.iconst 0, 1) := by decide +kernel
theorem dX11_hand_33 : decode cX11_hand 33 = .ok (.istore_n 2, 1) := by decide +kernel
theorem dX11_hand_34 : decode cX11_hand 34 = .ok (.iload_n 2, 1) := by decide +kernel
theorem dX11_hand_35 : decode cX11_hand 35 = .ok (.aload_n 0, 1) := by decide +kernel
theorem dX11_hand_36 : decode cX11_hand 36 = .ok (.getfield 316, 3) := by decide +kernel
theorem dX11_hand_39 : decode cX11_hand 39 = .ok (.if_icmp .ge 30, 3) := by decide +kernel
theorem dX11_hand_42 : decode cX11_hand 42 = .ok (.aload_n 0, 1) := by decide +kernel
theorem dX11_hand_43 : decode cX11_hand 43 = .ok (.aload_n 0, 1) := by decide +kernel
theorem dX11_hand_44 : decode cX11_hand 44 = .ok (.getfield 39, 3) := by decide +kernel
theorem dX11_hand_47 : decode cX11_hand 47 = .ok (.iload_n 2, 1) := by decide +kernel
theorem dX11_hand_48 : decode cX11_hand 48 = .ok (.iaload, 1) := by decide +kernel
theorem dX11_hand_49 : decode cX11_hand 49 = .ok (.aload_n 0, 1) := by decide +kernel
theorem dX11_hand_50 : decode cX11_hand 50 = .ok (.getfield 52, 3) := by decide +kernel
theorem dX11_hand_53 : decode cX11_hand 53 = .ok (.aload_n 0, 1) := by decide +kernel
theorem dX11_hand_54 : decode cX11_hand 54 = .ok (.getfield 39, 3) := by decide +kernel
theorem dX11_hand_57 : decode cX11_hand 57 = .ok (.iload_n 2, 1) := by decide +kernel
theorem dX11_hand_58 : decode cX11_hand 58 = .ok (.iaload, 1) := by decide +kernel
theorem dX11_hand_59 : decode cX11_hand 59 = .ok (.iaload, 1) := by decide +kernel
theorem dX11_hand_60 : decode cX11_hand 60 = .ok (.invokevirtual 307, 3) := by decide +kernel
theorem dX11_hand_63 : decode cX11_hand 63 = .ok (.iinc 2 1, 3) := by decide +kernel
theorem dX11_hand_66 : decode cX11_hand 66 = .ok (.goto (-32), 3) := by decide +kernel
theorem dX11_hand_69 : decode cX11_hand 69 = .ok (.aload_n 0, 1) := by decide +kernel
theorem dX11_hand_70 : decode cX11_hand 70 = .ok (.getfield 316, 3) := by decide +kernel
theorem dX11_hand_73 : decode cX11_hand 73 = .ok (.ireturn, 1) := by decide +kernel
set_option maxHeartbeats 4000000 in
set_option maxRecDepth 100000 in
/-- reference: hand -/
theorem r_hand0 (l : Launch) (D : va_G) (cI cJ cB cC : ClassId) (h : Nat) (th : Int32) (aw : Nat) (ai : Nat) (ab : Nat) (ac : Nat) (hi : Int32) (re : Int32) (aP : Nat) (ta : Int32) (po : Int32) (en : Int32) (be : Int32) (de : Int32) (fa : Int32) (a5 : Nat) (sp : Int32) (av : Nat) (an : Nat) (ak : Nat) (ne : Int32) (aW : Nat) (aC : Nat) (ag : Nat) (aT : Nat) (aN : Nat) (aF : Nat) (fw : Nat → Int32) (fv : Nat → Int32) (fn : Nat → Int32) (fk : Nat → Int32) (fW : Nat → Int64) (fC : Nat → Int32) (fg : Nat → Int32) (fc : Nat → Int32) (sz : Nat) (H_re : Rg re 0 12) (H_fw_W : wW fw) (H_fw_B : wB fw) (H_fw_L : wL fw) (H_fn_N : wN fn) (H_fk_K : wK fk) (H_fC_F : wF fC) (H_fc_C : wC fc) : Met l yX11_hand kwX11_hand ({ frames := 10, cells := 0, slots := 0, locals := 235 } : Room) (kPre D (kT cI cJ cB cC) sz [(h, oX11 th aw ai ab ac hi re aP ta po en be de fa a5 sp av an ak ne aW aC ag aT aN aF), (aw, kcI cI 2179 fw), (av, kcI cI 400 fv), (an, kcI cI 10 fn), (ak, kcI cI 10 fk), (aW, kcJ cJ 4096 fW), (aC, kcI cI 4096 fC), (ag, kcI cI 10 fg), (ac, kcI cI 6060 fc)] [.ref h, .int 0]) (va_Qi (fun (r : Int32) (uu : Int32 × Int32 × Int32 × (Nat → Int32) × (Nat → Int32) × (Nat → Int32) × (Nat → Int32) × (Nat → Int64) × (Nat → Int32) × (Nat → Int32) × (Nat → Int32)) => match uu with | (n0_, n1_, n2_, f3_, f4_, f5_, f6_, f7_, f8_, f9_, f10_) => Rg n1_ 0 12 ∧ Rg n2_ 0 10 ∧ wB f3_ ∧ wL f3_ ∧ wW f3_ ∧ wN f5_ ∧ wK f6_ ∧ wF f8_ ∧ wC f10_ ∧ Rg r 0 10 ∧ F_r_hand0 (re : Int32).toInt (gT fw) (gT fv) (gT fn) (gT fk) fW (gT fC) (gT fg) (gT fc) = ((r : Int32).toInt, (n0_ : Int32).toInt, (n1_ : Int32).toInt, (n2_ : Int32).toInt, (gT f3_), (gT f4_), (gT f5_), (gT f6_), f7_, (gT f8_), (gT f9_), (gT f10_))) (fun (uu : Int32 × Int32 × Int32 × (Nat → Int32) × (Nat → Int32) × (Nat → Int32) × (Nat → Int32) × (Nat → Int64) × (Nat → Int32) × (Nat → Int32) × (Nat → Int32)) (t : State) => match uu with | (n0_, n1_, n2_, f3_, f4_, f5_, f6_, f7_, f8_, f9_, f10_) => kB D (kT cI cJ cB cC) (va_A [(h, oX11 th aw ai ab ac hi re aP ta po en be de fa a5 sp av an ak ne aW aC ag aT aN aF), (aw, kcI cI 2179 fw), (av, kcI cI 400 fv), (an, kcI cI 10 fn), (ak, kcI cI 10 fk), (aW, kcJ cJ 4096 fW), (aC, kcI cI 4096 fC), (ag, kcI cI 10 fg), (ac, kcI cI 6060 fc)] sz) [(h, oX11 n0_ aw ai ab ac hi n1_ aP ta po en be de fa a5 sp av an ak n2_ aW aC ag aT aN aF), (aw, kcI cI 2179 f3_), (av, kcI cI 400 f4_), (an, kcI cI 10 f5_), (ak, kcI cI 10 f6_), (aW, kcJ cJ 4096 f7_), (aC, kcI cI 4096 f8_), (ag, kcI cI 10 f9_), (ac, kcI cI 6060 f10_)] t) (va_A [(h, oX11 th aw ai ab ac hi re aP ta po en be de fa a5 sp av an ak ne aW aC ag aT aN aF), (aw, kcI cI 2179 fw), (av, kcI cI 400 fv), (an, kcI cI 10 fn), (ak, kcI cI 10 fk), (aW, kcJ cJ 4096 fW), (aC, kcI cI 4096 fC), (ag, kcI cI 10 fg), (ac, kcI cI 6060 fc)] sz)) 0 0 (va_A [(h, oX11 th aw ai ab ac hi re aP ta po en be de fa a5 sp av an ak ne aW aC ag aT aN aF), (aw, kcI cI 2179 fw), (av, kcI cI 400 fv), (an, kcI cI 10 fn), (ak, kcI cI 10 fk), (aW, kcJ cJ 4096 fW), (aC, kcI cI 4096 fC), (ag, kcI cI 10 fg), (ac, kcI cI 6060 fc)] sz) := by
  refine Met.ofW (cc := cX11_hand) (maxL := 3) (ret := (some .int)) (by decide) rfl ?_
  intro p e s m args below meth c s₁ B hml hv
  obtain ⟨rfl, hsz, hN, hE, hP, hK, hD0⟩ := hv
  have hx := B.exec
  have hb := B.bytes
  have hr := B.returns
  have hts := fun (w : Cond) (h : w ∈ kG) => atoms_spec (ws := kwX11_hand) B.pre w (List.mem_cons_of_mem _ h)
  have hown : s.vm.findClass RX11 = some m.cls := findClass_of_methodNamed B.named
  subst hsz
  have hD := hD0.self (sz := s.heap.size)
  generalize hAe : va_A [(h, oX11 th aw ai ab ac hi re aP ta po en be de fa a5 sp av an ak ne aW aC ag aT aN aF), (aw, kcI cI 2179 fw), (av, kcI cI 400 fv), (an, kcI cI 10 fn), (ak, kcI cI 10 fk), (aW, kcJ cJ 4096 fW), (aC, kcI cI 4096 fC), (ag, kcI cI 10 fg), (ac, kcI cI 6060 fc)] s.heap.size = A at hD hE ⊢
  have hA : ∀ q : Nat, s.heap.size ≤ q → A q := fun q h => by rw [← hAe]; exact Or.inr h
  have hl := lv_entry ([.ref h, .int 0]) (n := 3) (Nat.le_of_ble_eq_true rfl)
  rw [lg_entry_eq]
  generalize (lg_sl ([.ref h, .int 0]) ++ List.replicate (3 - (lg_sl ([.ref h, .int 0])).length) Slot.unset).toArray = ls at hl ⊢
  have hl : lv_has ls 3 [(0, .ref h), (1, .int 0)] := hl
  obtain ⟨H, hH0⟩ : ∃ H, H = s.heap := ⟨_, rfl⟩
  have hS : va_S A s.heap H [] := by rw [hH0]; exact va_S.rf
  have hP : va_P D vwCl [(h, oX11 th aw ai ab ac hi re aP ta po en be de fa a5 sp av an ak ne aW aC ag aT aN aF), (aw, kcI cI 2179 fw), (av, kcI cI 400 fv), (an, kcI cI 10 fn), (ak, kcI cI 10 fk), (aW, kcJ cJ 4096 fW), (aC, kcI cI 4096 fC), (ag, kcI cI 10 fg), (ac, kcI cI 6060 fc)] H := by rw [hH0]; exact hP
  refine kHeap hH0 ?_
  clear hH0
  refine lv_aload_n hx hb dX11_hand_0 rfl (lv_at hl 0 rfl) ?_
  refine lv_iconst (v := 0) hx hb dX11_hand_1 (by decide) ?_
  refine va_put (D := D) (ci := 10) (v := .int 0) (ty := .int) (C := RX11) (T := TX11) (N := 26) hx hb hts iG_X11 tyX11 tyX11_ok nmX11 hown hK hP hD hS 0 rfl rfl 0 (by decide) (hts _ w6_8) (fun _ h9 => h9) rfl (by decide +kernel) rfl rfl (Nat.le_of_ble_eq_true rfl) dX11_hand_2 (fun H locs hP hD hS => ?_)
  have hP : va_P D vwCl [(h, oX11 0 aw ai ab ac hi re aP ta po en be de fa a5 sp av an ak ne aW aC ag aT aN aF), (aw, kcI cI 2179 fw), (av, kcI cI 400 fv), (an, kcI cI 10 fn), (ak, kcI cI 10 fk), (aW, kcJ cJ 4096 fW), (aC, kcI cI 4096 fC), (ag, kcI cI 10 fg), (ac, kcI cI 6060 fc)] H := hP
  have hD : va_D A [(h, oX11 0 aw ai ab ac hi re aP ta po en be de fa a5 sp av an ak ne aW aC ag aT aN aF), (aw, kcI cI 2179 fw), (av, kcI cI 400 fv), (an, kcI cI 10 fn), (ak, kcI cI 10 fk), (aW, kcJ cJ 4096 fW), (aC, kcI cI 4096 fC), (ag, kcI cI 10 fg), (ac, kcI cI 6060 fc)] := hD
  refine lv_aload_n hx hb dX11_hand_5 rfl (lv_at hl 0 rfl) ?_
  refine lv_aload_n hx hb dX11_hand_6 rfl (lv_at hl 0 rfl) ?_
  refine lv_iload_n hx hb dX11_hand_7 rfl (lv_at hl 1 rfl) ?_
  refine kcalli (wc := [(h, oX11 0 aw ai ab ac hi re aP ta po en be de fa a5 sp av an ak ne aW aC ag aT aN aF), (aw, kcI cI 2179 fw), (av, kcI cI 400 fv), (an, kcI cI 10 fn), (ak, kcI cI 10 fk), (aW, kcJ cJ 4096 fW), (aC, kcI cI 4096 fC), (ag, kcI cI 10 fg)]) (wr := [(ac, kcI cI 6060 fc)]) hP hD hS hA [0, 1, 2, 3, 4, 5, 6, 7] [8] rfl rfl (by decide) (by decide) (by decide) (fun hPc hDc hFc => va_runV (As := [.int 0]) (rest := [.ref h]) ⟨hx, hb, hml, hown, hts⟩ (r_plans0 l D cI cJ cB cC h 0 aw ai ab ac hi re aP ta po en be de fa a5 sp av an ak ne aW aC ag aT aN aF fw fv fn fk fW fC fg H.size H_fw_W H_fw_L H_fn_N H_fk_K H_fC_F) (cwV 1 hts gX11_hand_X11_plans rfl rfl rfl ⟨rfl, hdX11_plans⟩ ⟨Nat.le_of_ble_eq_true rfl, Nat.le_of_ble_eq_true rfl⟩) ⟨kBlind, va_recv hK hPc (ci := 10) (q0 := 0) rfl rfl, fun U hU hW => ⟨rfl, by rw [hU], hN.warm hW, hE.pass hS hFc hW hU, by rw [hU]; exact hPc, va_K.moved hW.alike hK, hDc⟩⟩ rfl rfl hl.1 rfl (lv_room (Nat.le_of_ble_eq_true rfl)) dX11_hand_8 ⟨Nat.le_of_ble_eq_true rfl, Nat.le_of_ble_eq_true rfl⟩) (fun r1 u H locs hw hP hD hS => ?_)
  obtain ⟨x2, g3, g4, g5, g6, g7, g8⟩ := u
  have hP : va_P D vwCl [(ac, kcI cI 6060 fc), (h, oX11 0 aw ai ab ac hi re aP ta po en be de fa a5 sp av an ak x2 aW aC ag aT aN aF), (aw, kcI cI 2179 fw), (av, kcI cI 400 g3), (an, kcI cI 10 g4), (ak, kcI cI 10 g5), (aW, kcJ cJ 4096 g6), (aC, kcI cI 4096 g7), (ag, kcI cI 10 g8)] H := hP
  have hD : va_D A [(ac, kcI cI 6060 fc), (h, oX11 0 aw ai ab ac hi re aP ta po en be de fa a5 sp av an ak x2 aW aC ag aT aN aF), (aw, kcI cI 2179 fw), (av, kcI cI 400 g3), (an, kcI cI 10 g4), (ak, kcI cI 10 g5), (aW, kcJ cJ 4096 g6), (aC, kcI cI 4096 g7), (ag, kcI cI 10 g8)] := hD
  obtain ⟨k9, k10, k11, k12, k13, hw⟩ := hw
  rcases hw with rfl | ⟨rfl, kc14_0⟩
  · skip
    refine lv_if_ne (tgt := 18) hx hb dX11_hand_11 (by decide) (fun c16 => absurd (by decide) c16) (fun _ => ?_)
    refine lv_iconst (v := 1) hx hb dX11_hand_14 (by decide) ?_
    refine lv_goto (tgt := 19) hx hb dX11_hand_15 (by decide) ?_
    refine lv_iconst (v := 1) hx hb dX11_hand_19 (by decide) ?_
    refine kcalli (wc := [(h, oX11 0 aw ai ab ac hi re aP ta po en be de fa a5 sp av an ak x2 aW aC ag aT aN aF)]) (wr := [(ac, kcI cI 6060 fc), (aw, kcI cI 2179 fw), (av, kcI cI 400 g3), (an, kcI cI 10 g4), (ak, kcI cI 10 g5), (aW, kcJ cJ 4096 g6), (aC, kcI cI 4096 g7), (ag, kcI cI 10 g8)]) hP hD hS hA [1] [0, 2, 3, 4, 5, 6, 7, 8] rfl rfl (by decide) (by decide) (by decide) (fun hPc hDc hFc => va_runV (As := [.int 1, .int 1]) (rest := []) ⟨hx, hb, hml, hown, hts⟩ (r_throwsIf1_1 l D cI cJ cB cC h 0 aw ai ab ac hi re aP ta po en be de fa a5 sp av an ak x2 aW aC ag aT aN aF 1 H.size) (cwV 2 hts gX11_hand_X11_throwsIf rfl rfl rfl ⟨rfl, hdX11_throwsIf⟩ ⟨Nat.le_of_ble_eq_true rfl, Nat.le_of_ble_eq_true rfl⟩) ⟨kBlind, va_recv hK hPc (ci := 10) (q0 := 0) rfl rfl, fun U hU hW => ⟨rfl, by rw [hU], hN.warm hW, hE.pass hS hFc hW hU, by rw [hU]; exact hPc, va_K.moved hW.alike hK, hDc⟩⟩ rfl rfl hl.1 rfl (lv_room (Nat.le_of_ble_eq_true rfl)) dX11_hand_20 ⟨Nat.le_of_ble_eq_true rfl, Nat.le_of_ble_eq_true rfl⟩) (fun r17 u H locs hw hP hD hS => ?_)
    obtain ⟨x18, rfl⟩ : ∃ z, z = u := ⟨_, rfl⟩
    have hP : va_P D vwCl [(ac, kcI cI 6060 fc), (aw, kcI cI 2179 fw), (av, kcI cI 400 g3), (an, kcI cI 10 g4), (ak, kcI cI 10 g5), (aW, kcJ cJ 4096 g6), (aC, kcI cI 4096 g7), (ag, kcI cI 10 g8), (h, oX11 x18 aw ai ab ac hi re aP ta po en be de fa a5 sp av an ak x2 aW aC ag aT aN aF)] H := hP
    have hD : va_D A [(ac, kcI cI 6060 fc), (aw, kcI cI 2179 fw), (av, kcI cI 400 g3), (an, kcI cI 10 g4), (ak, kcI cI 10 g5), (aW, kcJ cJ 4096 g6), (aC, kcI cI 4096 g7), (ag, kcI cI 10 g8), (h, oX11 x18 aw ai ab ac hi re aP ta po en be de fa a5 sp av an ak x2 aW aC ag aT aN aF)] := hD
    obtain ⟨k19, k20⟩ := hw
    refine lv_if_eq (tgt := 28) hx hb dX11_hand_23 (by decide) (fun c21 => absurd c21 (rg_neq k19 (rg_lit (n := 0) (by decide)) (by decide))) (fun _ => ?_)
    refine lv_iconst (v := 0) hx hb dX11_hand_26 (by decide) ?_
    have hP9 := hP.sub (ws' := [(h, oX11 x18 aw ai ab ac hi re aP ta po en be de fa a5 sp av an ak x2 aW aC ag aT aN aF), (aw, kcI cI 2179 fw), (av, kcI cI 400 g3), (an, kcI cI 10 g4), (ak, kcI cI 10 g5), (aW, kcJ cJ 4096 g6), (aC, kcI cI 4096 g7), (ag, kcI cI 10 g8), (ac, kcI cI 6060 fc)]) [8, 1, 2, 3, 4, 5, 6, 7, 0] rfl
    have hD9 := hD.sub (ws' := [(h, oX11 x18 aw ai ab ac hi re aP ta po en be de fa a5 sp av an ak x2 aW aC ag aT aN aF), (aw, kcI cI 2179 fw), (av, kcI cI 400 g3), (an, kcI cI 10 g4), (ak, kcI cI 10 g5), (aW, kcJ cJ 4096 g6), (aC, kcI cI 4096 g7), (ag, kcI cI 10 g8), (ac, kcI cI 6060 fc)]) [8, 1, 2, 3, 4, 5, 6, 7, 0] (by decide) rfl
    exact W.iret (v := 0) hx hb hr (fun t ht hW => ⟨⟨0, (x18, re, x2, fw, g3, g4, g5, g6, g7, g8, fc), rfl, ⟨H_re, k9, H_fw_B, H_fw_L, H_fw_W, k10, k11, k12, H_fc_C, (rg_w (rg_lit (n := 0) (by decide)) (by decide)), (kC_eq k13 (kC_eq rfl (kC_eq rfl (kC_eq rfl (kC_eq rfl (kC_eq rfl (kC_eq rfl (kif_t rfl (kC_eq k20 rfl)))))))))⟩, by rw [ht]; exact hP9, va_K.moved hW.alike hK, hD9⟩, hS.F ht⟩) hS.2.2 dX11_hand_27
  · skip
    refine lv_if_ne (tgt := 18) hx hb dX11_hand_11 (by decide) (fun _ => ?_) (fun c23 => absurd c23 (by decide))
    refine lv_iconst (v := 0) hx hb dX11_hand_18 (by decide) ?_
    refine lv_iconst (v := 1) hx hb dX11_hand_19 (by decide) ?_
    refine kpurei (wc := [(h, oX11 0 aw ai ab ac hi re aP ta po en be de fa a5 sp av an ak x2 aW aC ag aT aN aF)]) hP hD hS hA [1] rfl (by decide) (fun hPc hDc hFc => va_runV (As := [.int 0, .int 1]) (rest := []) ⟨hx, hb, hml, hown, hts⟩ (r_throwsIf0_1 l D cI cJ cB cC h 0 aw ai ab ac hi re aP ta po en be de fa a5 sp av an ak x2 aW aC ag aT aN aF 1 H.size) (cwV 2 hts gX11_hand_X11_throwsIf rfl rfl rfl ⟨rfl, hdX11_throwsIf⟩ ⟨Nat.le_of_ble_eq_true rfl, Nat.le_of_ble_eq_true rfl⟩) ⟨kBlind, va_recv hK hPc (ci := 10) (q0 := 0) rfl rfl, fun U hU hW => ⟨rfl, by rw [hU], hN.warm hW, hE.pass hS hFc hW hU, by rw [hU]; exact hPc, va_K.moved hW.alike hK, hDc⟩⟩ rfl rfl hl.1 rfl (lv_room (Nat.le_of_ble_eq_true rfl)) dX11_hand_20 ⟨Nat.le_of_ble_eq_true rfl, Nat.le_of_ble_eq_true rfl⟩) (fun r24 u H locs hw hP hS => ?_)
    obtain ⟨k25, k26⟩ := hw
    refine lv_if_eq (tgt := 28) hx hb dX11_hand_23 (by decide) (fun _ => ?_) (fun c27 => absurd (rg_eq k25 (rg_lit (n := 0) (by decide)) (by decide)) c27)
    refine lv_aload_n hx hb dX11_hand_28 rfl (lv_at hl 0 rfl) ?_
    refine kcallv (wc := [(h, oX11 0 aw ai ab ac hi re aP ta po en be de fa a5 sp av an ak x2 aW aC ag aT aN aF), (aw, kcI cI 2179 fw), (ac, kcI cI 6060 fc)]) (wr := [(av, kcI cI 400 g3), (an, kcI cI 10 g4), (ak, kcI cI 10 g5), (aW, kcJ cJ 4096 g6), (aC, kcI cI 4096 g7), (ag, kcI cI 10 g8)]) hP hD hS hA [1, 2, 0] [3, 4, 5, 6, 7, 8] rfl rfl (by decide) (by decide) (by decide) (fun hPc hDc hFc => va_runV (As := []) (rest := []) ⟨hx, hb, hml, hown, hts⟩ (r_remembers l D cI cJ cB cC h 0 aw ai ab ac hi re aP ta po en be de fa a5 sp av an ak x2 aW aC ag aT aN aF fw fc H.size H_re H_fw_W H_fw_B H_fw_L H_fc_C) (cwV 0 hts gX11_hand_X11_remembers rfl rfl rfl ⟨rfl, hdX11_remembers⟩ ⟨Nat.le_of_ble_eq_true rfl, Nat.le_of_ble_eq_true rfl⟩) ⟨kBlind, va_recv hK hPc (ci := 10) (q0 := 0) rfl rfl, fun U hU hW => ⟨rfl, by rw [hU], hN.warm hW, hE.pass hS hFc hW hU, by rw [hU]; exact hPc, va_K.moved hW.alike hK, hDc⟩⟩ rfl rfl hl.1 rfl (lv_room (Nat.le_of_ble_eq_true rfl)) dX11_hand_29 ⟨Nat.le_of_ble_eq_true rfl, Nat.le_of_ble_eq_true rfl⟩) (fun u H locs hw hP hD hS => ?_)
    obtain ⟨x28, g29⟩ := u
    have hP : va_P D vwCl [(av, kcI cI 400 g3), (an, kcI cI 10 g4), (ak, kcI cI 10 g5), (aW, kcJ cJ 4096 g6), (aC, kcI cI 4096 g7), (ag, kcI cI 10 g8), (h, oX11 0 aw ai ab ac hi x28 aP ta po en be de fa a5 sp av an ak x2 aW aC ag aT aN aF), (aw, kcI cI 2179 fw), (ac, kcI cI 6060 g29)] H := hP
    have hD : va_D A [(av, kcI cI 400 g3), (an, kcI cI 10 g4), (ak, kcI cI 10 g5), (aW, kcJ cJ 4096 g6), (aC, kcI cI 4096 g7), (ag, kcI cI 10 g8), (h, oX11 0 aw ai ab ac hi x28 aP ta po en be de fa a5 sp av an ak x2 aW aC ag aT aN aF), (aw, kcI cI 2179 fw), (ac, kcI cI 6060 g29)] := hD
    obtain ⟨k30, k31, k32⟩ := hw
    refine lv_iconst (v := 0) hx hb dX11_hand_32 (by decide) ?_
    refine lv_istore_n (lv' := [(2, .int 0), (0, .ref h), (1, .int 0)]) hx hb dX11_hand_33 rfl hl (by decide) rfl (fun ls hl => ?_)
    refine k_loop (hd := 34) (fun (u : Int32 × (Nat → Int32)) => match u with | (y317, g318) => (10 - (y317).toInt).toNat) (fun (u : Int32 × (Nat → Int32)) (H : Heap) (locs : List Loc) (ls : Array Slot) => match u with | (y317, g318) => (F_r_hand0 re.toInt (gT fw) (gT fv) (gT fn) (gT fk) fW (gT fC) (gT fg) (gT fc) = F_r_hand0_l1 x2.toInt (gT g3) (gT g4) (gT g5) g6 (gT g7) (gT g8) x28.toInt (gT g29) (y317.toInt, (gT g318))) ∧ Rg y317 0 10 ∧ wB g318 ∧ wL g318 ∧ wW g318 ∧ va_P D vwCl [(av, kcI cI 400 g3), (an, kcI cI 10 g4), (ak, kcI cI 10 g5), (aW, kcJ cJ 4096 g6), (aC, kcI cI 4096 g7), (ag, kcI cI 10 g8), (h, oX11 0 aw ai ab ac hi x28 aP ta po en be de fa a5 sp av an ak x2 aW aC ag aT aN aF), (aw, kcI cI 2179 g318), (ac, kcI cI 6060 g29)] H ∧ va_D A [(av, kcI cI 400 g3), (an, kcI cI 10 g4), (ak, kcI cI 10 g5), (aW, kcJ cJ 4096 g6), (aC, kcI cI 4096 g7), (ag, kcI cI 10 g8), (h, oX11 0 aw ai ab ac hi x28 aP ta po en be de fa a5 sp av an ak x2 aW aC ag aT aN aF), (aw, kcI cI 2179 g318), (ac, kcI cI 6060 g29)] ∧ va_S A s.heap H locs ∧ lv_has ls 3 [(2, .int y317), (0, .ref h), (1, .int 0)]) ((0 : Int32), fw) ⟨(kC_eq k13 (kC_eq rfl (kC_eq rfl (kC_eq rfl (kC_eq rfl (kC_eq rfl (kC_eq rfl (kif_f (by decide) (kLet_eq (k26).symm (kC_eq k32 rfl)))))))))), (rg_w (rg_lit (n := 0) (by decide)) (by decide)), H_fw_B, H_fw_L, H_fw_W, hP.sub (ws' := [(av, kcI cI 400 g3), (an, kcI cI 10 g4), (ak, kcI cI 10 g5), (aW, kcJ cJ 4096 g6), (aC, kcI cI 4096 g7), (ag, kcI cI 10 g8), (h, oX11 0 aw ai ab ac hi x28 aP ta po en be de fa a5 sp av an ak x2 aW aC ag aT aN aF), (aw, kcI cI 2179 fw), (ac, kcI cI 6060 g29)]) [0, 1, 2, 3, 4, 5, 6, 7, 8] rfl, hD.sub (ws' := [(av, kcI cI 400 g3), (an, kcI cI 10 g4), (ak, kcI cI 10 g5), (aW, kcJ cJ 4096 g6), (aC, kcI cI 4096 g7), (ag, kcI cI 10 g8), (h, oX11 0 aw ai ab ac hi x28 aP ta po en be de fa a5 sp av an ak x2 aW aC ag aT aN aF), (aw, kcI cI 2179 fw), (ac, kcI cI 6060 g29)]) [0, 1, 2, 3, 4, 5, 6, 7, 8] (by decide) rfl, hS, lv_sub (l' := [(2, .int 0), (0, .ref h), (1, .int 0)]) hl [0, 1, 2] rfl⟩ (fun u H locs ls hI ih319 => ?_)
    clear hP hD hS hl
    obtain ⟨y317, g318⟩ := u
    obtain ⟨hF1, hy317, hg318_0, hg318_1, hg318_2, hP, hD, hS, hl⟩ := hI
    have hP : va_P D vwCl [(av, kcI cI 400 g3), (an, kcI cI 10 g4), (ak, kcI cI 10 g5), (aW, kcJ cJ 4096 g6), (aC, kcI cI 4096 g7), (ag, kcI cI 10 g8), (h, oX11 0 aw ai ab ac hi x28 aP ta po en be de fa a5 sp av an ak x2 aW aC ag aT aN aF), (aw, kcI cI 2179 g318), (ac, kcI cI 6060 g29)] H := hP
    have hD : va_D A [(av, kcI cI 400 g3), (an, kcI cI 10 g4), (ak, kcI cI 10 g5), (aW, kcJ cJ 4096 g6), (aC, kcI cI 4096 g7), (ag, kcI cI 10 g8), (h, oX11 0 aw ai ab ac hi x28 aP ta po en be de fa a5 sp av an ak x2 aW aC ag aT aN aF), (aw, kcI cI 2179 g318), (ac, kcI cI 6060 g29)] := hD
    have hl : lv_has ls 3 [(2, .int y317), (0, .ref h), (1, .int 0)] := hl
    refine lv_iload_n hx hb dX11_hand_34 rfl (lv_at hl 0 rfl) ?_
    refine lv_aload_n hx hb dX11_hand_35 rfl (lv_at hl 1 rfl) ?_
    refine va_get (D := D) (ci := 10) (v := .int x2) (C := RX11) (T := TX11) (N := 26) hx hb hts iG_X11 hown hK hP 6 rfl rfl 19 (by decide) (hts _ w40_7) (fun _ h9 => h9) rfl dX11_hand_36 ?_
    refine lv_icmp_ge (tgt := 69) hx hb dX11_hand_39 (by decide) (fun c320 => ?_) (fun c320 => ?_)
    · skip
      refine lv_aload_n hx hb dX11_hand_69 rfl (lv_at hl 1 rfl) ?_
      refine va_get (D := D) (ci := 10) (v := .int x2) (C := RX11) (T := TX11) (N := 26) hx hb hts iG_X11 hown hK hP 6 rfl rfl 19 (by decide) (hts _ w40_7) (fun _ h9 => h9) rfl dX11_hand_70 ?_
      have hP9 := hP.sub (ws' := [(h, oX11 0 aw ai ab ac hi x28 aP ta po en be de fa a5 sp av an ak x2 aW aC ag aT aN aF), (aw, kcI cI 2179 g318), (av, kcI cI 400 g3), (an, kcI cI 10 g4), (ak, kcI cI 10 g5), (aW, kcJ cJ 4096 g6), (aC, kcI cI 4096 g7), (ag, kcI cI 10 g8), (ac, kcI cI 6060 g29)]) [6, 7, 0, 1, 2, 3, 4, 5, 8] rfl
      have hD9 := hD.sub (ws' := [(h, oX11 0 aw ai ab ac hi x28 aP ta po en be de fa a5 sp av an ak x2 aW aC ag aT aN aF), (aw, kcI cI 2179 g318), (av, kcI cI 400 g3), (an, kcI cI 10 g4), (ak, kcI cI 10 g5), (aW, kcJ cJ 4096 g6), (aC, kcI cI 4096 g7), (ag, kcI cI 10 g8), (ac, kcI cI 6060 g29)]) [6, 7, 0, 1, 2, 3, 4, 5, 8] (by decide) rfl
      exact W.iret (v := x2) hx hb hr (fun t ht hW => ⟨⟨x2, ((0 : Int32), x28, x2, g318, g3, g4, g5, g6, g7, g8, g29), rfl, ⟨(rg_w k30 (by decide)), k9, hg318_0, hg318_1, hg318_2, k10, k11, k12, k31, k9, (hF1.trans (kIter_out (kC_eq rfl (kif_t (leI c320) rfl))))⟩, by rw [ht]; exact hP9, va_K.moved hW.alike hK, hD9⟩, hS.F ht⟩) hS.2.2 dX11_hand_73
    · skip
      have k321 : Rg y317 0 9 := rg_l1 (nleI c320) hy317 k9 (by decide)
      have k322 : Rg x2 1 10 := rg_l2 (nleI c320) hy317 k9 (by decide)
      refine lv_aload_n hx hb dX11_hand_42 rfl (lv_at hl 1 rfl) ?_
      refine lv_aload_n hx hb dX11_hand_43 rfl (lv_at hl 1 rfl) ?_
      refine va_get (D := D) (ci := 10) (v := .ref an) (C := RX11) (T := TX11) (N := 26) hx hb hts iG_X11 hown hK hP 6 rfl rfl 17 (by decide) (hts _ w5_12) (fun _ h9 => h9) rfl dX11_hand_44 ?_
      refine lv_iload_n hx hb dX11_hand_47 rfl (lv_at hl 0 rfl) ?_
      refine va_iald hx hb hK hP 1 0 rfl rfl (rg_in k321 (by decide)) dX11_hand_48 ?_
      refine lv_topi (fun x323 ex323 => ?_)
      have k324 : Rg x323 0 9 := wN_rd k10 ex323
      refine lv_aload_n hx hb dX11_hand_49 rfl (lv_at hl 1 rfl) ?_
      refine va_get (D := D) (ci := 10) (v := .ref ag) (C := RX11) (T := TX11) (N := 26) hx hb hts iG_X11 hown hK hP 6 rfl rfl 22 (by decide) (hts _ w5_16) (fun _ h9 => h9) rfl dX11_hand_50 ?_
      refine lv_aload_n hx hb dX11_hand_53 rfl (lv_at hl 1 rfl) ?_
      refine va_get (D := D) (ci := 10) (v := .ref an) (C := RX11) (T := TX11) (N := 26) hx hb hts iG_X11 hown hK hP 6 rfl rfl 17 (by decide) (hts _ w5_12) (fun _ h9 => h9) rfl dX11_hand_54 ?_
      refine lv_iload_n hx hb dX11_hand_57 rfl (lv_at hl 0 rfl) ?_
      refine va_iald hx hb hK hP 1 0 rfl rfl (rg_in k321 (by decide)) dX11_hand_58 ?_
      refine lv_topi (fun x325 ex325 => ?_)
      have k326 : Rg x325 0 9 := wN_rd k10 ex325
      refine va_iald hx hb hK hP 5 0 rfl rfl (rg_in k326 (by decide)) dX11_hand_59 ?_
      refine lv_topi (fun x327 ex327 => ?_)
      have k328 : Rg x327 0 11 := (by rw [ex327, (cl_of (k := cN x325) k326 (by decide) (by simp only [cN]; have q1 := k326; unfold Rg at q1; omega)), ex325, (cl_of (k := cN y317) k321 (by decide) (by simp only [cN]; have q1 := k321; unfold Rg at q1; omega))]; exact kc14_0 (cN y317) (cn_lt2 (nleI c320) (by have q1 := k321; unfold Rg at q1; omega)))
      refine kcallv (wc := [(h, oX11 0 aw ai ab ac hi x28 aP ta po en be de fa a5 sp av an ak x2 aW aC ag aT aN aF), (aw, kcI cI 2179 g318)]) (wr := [(av, kcI cI 400 g3), (an, kcI cI 10 g4), (ak, kcI cI 10 g5), (aW, kcJ cJ 4096 g6), (aC, kcI cI 4096 g7), (ag, kcI cI 10 g8), (ac, kcI cI 6060 g29)]) hP hD hS hA [6, 7] [0, 1, 2, 3, 4, 5, 8] rfl rfl (by decide) (by decide) (by decide) (fun hPc hDc hFc => va_runV (As := [.int x323, .int x327]) (rest := []) ⟨hx, hb, hml, hown, hts⟩ (r_gives l D cI cJ cB cC h 0 aw ai ab ac hi x28 aP ta po en be de fa a5 sp av an ak x2 aW aC ag aT aN aF g318 x323 x327 H.size k324 k328 hg318_2 hg318_0 hg318_1) (cwV 2 hts gX11_hand_X11_gives rfl rfl rfl ⟨rfl, hdX11_gives⟩ ⟨Nat.le_of_ble_eq_true rfl, Nat.le_of_ble_eq_true rfl⟩) ⟨kBlind, va_recv hK hPc (ci := 10) (q0 := 0) rfl rfl, fun U hU hW => ⟨rfl, by rw [hU], hN.warm hW, hE.pass hS hFc hW hU, by rw [hU]; exact hPc, va_K.moved hW.alike hK, hDc⟩⟩ rfl rfl hl.1 rfl (lv_room (Nat.le_of_ble_eq_true rfl)) dX11_hand_60 ⟨Nat.le_of_ble_eq_true rfl, Nat.le_of_ble_eq_true rfl⟩) (fun u H locs hw hP hD hS => ?_)
      obtain ⟨g329, rfl⟩ : ∃ z, z = u := ⟨_, rfl⟩
      have hP : va_P D vwCl [(av, kcI cI 400 g3), (an, kcI cI 10 g4), (ak, kcI cI 10 g5), (aW, kcJ cJ 4096 g6), (aC, kcI cI 4096 g7), (ag, kcI cI 10 g8), (ac, kcI cI 6060 g29), (h, oX11 0 aw ai ab ac hi x28 aP ta po en be de fa a5 sp av an ak x2 aW aC ag aT aN aF), (aw, kcI cI 2179 g329)] H := hP
      have hD : va_D A [(av, kcI cI 400 g3), (an, kcI cI 10 g4), (ak, kcI cI 10 g5), (aW, kcJ cJ 4096 g6), (aC, kcI cI 4096 g7), (ag, kcI cI 10 g8), (ac, kcI cI 6060 g29), (h, oX11 0 aw ai ab ac hi x28 aP ta po en be de fa a5 sp av an ak x2 aW aC ag aT aN aF), (aw, kcI cI 2179 g329)] := hD
      obtain ⟨k330, k331, k332, k333⟩ := hw
      obtain ⟨x334, ex334⟩ : ∃ y : Int32, y = y317 + 1 := ⟨_, rfl⟩
      refine lv_iinc (v := x334) (lv' := [(2, .int x334), (0, .ref h), (1, .int 0)]) hx hb dX11_hand_63 hl (k := 0) rfl (by rw [ex334]; rfl) (by decide) rfl (fun ls hl => ?_)
      have k335 : Rg x334 1 10 := rg_add ex334 k321 (rg_lit (n := 1) (by decide)) (by decide)
      refine lv_goto (tgt := 34) hx hb dX11_hand_66 (by decide) ?_
      exact ih319 (x334, g329) _ _ _ (by show (10 - (x334).toInt).toNat < (10 - (y317).toInt).toNat; exact mu_up ex334 k321 k335 (by decide)) ⟨(hF1.trans (kIter_go (kC_eq rfl (kif_f (xF_le c320) (kLet_eq (ke_ld ex323) (kLet_eq (ke_ld ex325) (kLet_eq (ke_ld ex327) (kLet_eq (k333).symm (kLet_eq (ti_add ex334 k321 (rg_lit (n := 1) (by decide)) (by decide) rfl rfl) rfl))))))))), (rg_w k335 (by decide)), k330, k331, k332, hP.sub (ws' := [(av, kcI cI 400 g3), (an, kcI cI 10 g4), (ak, kcI cI 10 g5), (aW, kcJ cJ 4096 g6), (aC, kcI cI 4096 g7), (ag, kcI cI 10 g8), (h, oX11 0 aw ai ab ac hi x28 aP ta po en be de fa a5 sp av an ak x2 aW aC ag aT aN aF), (aw, kcI cI 2179 g329), (ac, kcI cI 6060 g29)]) [0, 1, 2, 3, 4, 5, 7, 8, 6] rfl, hD.sub (ws' := [(av, kcI cI 400 g3), (an, kcI cI 10 g4), (ak, kcI cI 10 g5), (aW, kcJ cJ 4096 g6), (aC, kcI cI 4096 g7), (ag, kcI cI 10 g8), (h, oX11 0 aw ai ab ac hi x28 aP ta po en be de fa a5 sp av an ak x2 aW aC ag aT aN aF), (aw, kcI cI 2179 g329), (ac, kcI cI 6060 g29)]) [0, 1, 2, 3, 4, 5, 7, 8, 6] (by decide) rfl, hS, lv_sub (l' := [(2, .int x334), (0, .ref h), (1, .int 0)]) hl [0, 1, 2] rfl⟩

set_option maxHeartbeats 4000000 in
set_option maxRecDepth 100000 in
/-- reference: plan -/
theorem r_plan1 (l : Launch) (D : va_G) (cI cJ cB cC : ClassId) (h : Nat) (th : Int32) (aw : Nat) (ai : Nat) (ab : Nat) (ac : Nat) (hi : Int32) (re : Int32) (aP : Nat) (ta : Int32) (po : Int32) (en : Int32) (be : Int32) (de : Int32) (fa : Int32) (a5 : Nat) (sp : Int32) (av : Nat) (an : Nat) (ak : Nat) (ne : Int32) (aW : Nat) (aC : Nat) (ag : Nat) (aT : Nat) (aN : Nat) (aF : Nat) (fw : Nat → Int32) (fv : Nat → Int32) (fn : Nat → Int32) (fk : Nat → Int32) (fW : Nat → Int64) (fC : Nat → Int32) (fg : Nat → Int32) (a1 : Int32) (sz : Nat) (H_fw_W : wW fw) (H_fw_L : wL fw) (H_fn_N : wN fn) (H_fk_K : wK fk) (H_fC_F : wF fC) : Met l yX11_plan kwX11_plan ({ frames := 10, cells := 0, slots := 0, locals := 235 } : Room) (kPre D (kT cI cJ cB cC) sz [(h, oX11 th aw ai ab ac hi re aP ta po en be de fa a5 sp av an ak ne aW aC ag aT aN aF), (aw, kcI cI 2179 fw), (av, kcI cI 400 fv), (an, kcI cI 10 fn), (ak, kcI cI 10 fk), (aW, kcJ cJ 4096 fW), (aC, kcI cI 4096 fC), (ag, kcI cI 10 fg)] [.ref h, .int a1, .int 1]) (va_Qi (fun (r : Int32) (uu : Int32 × Int32 × (Nat → Int32) × (Nat → Int32) × (Nat → Int32) × (Nat → Int64) × (Nat → Int32) × (Nat → Int32)) => match uu with | (n0_, n1_, f2_, f3_, f4_, f5_, f6_, f7_) => wN f3_ ∧ wK f4_ ∧ wF f6_ ∧ F_r_plan1 (ne : Int32).toInt (gT fw) (gT fv) (gT fn) (gT fk) fW (gT fC) (gT fg) (a1 : Int32).toInt = ((r : Int32).toInt, (n0_ : Int32).toInt, (n1_ : Int32).toInt, (gT f2_), (gT f3_), (gT f4_), f5_, (gT f6_), (gT f7_))) (fun (uu : Int32 × Int32 × (Nat → Int32) × (Nat → Int32) × (Nat → Int32) × (Nat → Int64) × (Nat → Int32) × (Nat → Int32)) (t : State) => match uu with | (n0_, n1_, f2_, f3_, f4_, f5_, f6_, f7_) => kB D (kT cI cJ cB cC) (va_A [(h, oX11 th aw ai ab ac hi re aP ta po en be de fa a5 sp av an ak ne aW aC ag aT aN aF), (aw, kcI cI 2179 fw), (av, kcI cI 400 fv), (an, kcI cI 10 fn), (ak, kcI cI 10 fk), (aW, kcJ cJ 4096 fW), (aC, kcI cI 4096 fC), (ag, kcI cI 10 fg)] sz) [(h, oX11 n0_ aw ai ab ac hi re aP ta po en be de fa a5 sp av an ak n1_ aW aC ag aT aN aF), (aw, kcI cI 2179 fw), (av, kcI cI 400 f2_), (an, kcI cI 10 f3_), (ak, kcI cI 10 f4_), (aW, kcJ cJ 4096 f5_), (aC, kcI cI 4096 f6_), (ag, kcI cI 10 f7_)] t) (va_A [(h, oX11 th aw ai ab ac hi re aP ta po en be de fa a5 sp av an ak ne aW aC ag aT aN aF), (aw, kcI cI 2179 fw), (av, kcI cI 400 fv), (an, kcI cI 10 fn), (ak, kcI cI 10 fk), (aW, kcJ cJ 4096 fW), (aC, kcI cI 4096 fC), (ag, kcI cI 10 fg)] sz)) 0 0 (va_A [(h, oX11 th aw ai ab ac hi re aP ta po en be de fa a5 sp av an ak ne aW aC ag aT aN aF), (aw, kcI cI 2179 fw), (av, kcI cI 400 fv), (an, kcI cI 10 fn), (ak, kcI cI 10 fk), (aW, kcJ cJ 4096 fW), (aC, kcI cI 4096 fC), (ag, kcI cI 10 fg)] sz) := by
  refine Met.ofW (cc := cX11_plan) (maxL := 3) (ret := (some .int)) (by decide) rfl ?_
  intro p e s m args below meth c s₁ B hml hv
  obtain ⟨rfl, hsz, hN, hE, hP, hK, hD0⟩ := hv
  have hx := B.exec
  have hb := B.bytes
  have hr := B.returns
  have hts := fun (w : Cond) (h : w ∈ kG) => atoms_spec (ws := kwX11_plan) B.pre w (List.mem_cons_of_mem _ h)
  have hown : s.vm.findClass RX11 = some m.cls := findClass_of_methodNamed B.named
  subst hsz
  have hD := hD0.self (sz := s.heap.size)
  generalize hAe : va_A [(h, oX11 th aw ai ab ac hi re aP ta po en be de fa a5 sp av an ak ne aW aC ag aT aN aF), (aw, kcI cI 2179 fw), (av, kcI cI 400 fv), (an, kcI cI 10 fn), (ak, kcI cI 10 fk), (aW, kcJ cJ 4096 fW), (aC, kcI cI 4096 fC), (ag, kcI cI 10 fg)] s.heap.size = A at hD hE ⊢
  have hA : ∀ q : Nat, s.heap.size ≤ q → A q := fun q h => by rw [← hAe]; exact Or.inr h
  have hl := lv_entry ([.ref h, .int a1, .int 1]) (n := 3) (Nat.le_of_ble_eq_true rfl)
  rw [lg_entry_eq]
  generalize (lg_sl ([.ref h, .int a1, .int 1]) ++ List.replicate (3 - (lg_sl ([.ref h, .int a1, .int 1])).length) Slot.unset).toArray = ls at hl ⊢
  have hl : lv_has ls 3 [(0, .ref h), (1, .int a1), (2, .int 1)] := hl
  obtain ⟨H, hH0⟩ : ∃ H, H = s.heap := ⟨_, rfl⟩
  have hS : va_S A s.heap H [] := by rw [hH0]; exact va_S.rf
  have hP : va_P D vwCl [(h, oX11 th aw ai ab ac hi re aP ta po en be de fa a5 sp av an ak ne aW aC ag aT aN aF), (aw, kcI cI 2179 fw), (av, kcI cI 400 fv), (an, kcI cI 10 fn), (ak, kcI cI 10 fk), (aW, kcJ cJ 4096 fW), (aC, kcI cI 4096 fC), (ag, kcI cI 10 fg)] H := by rw [hH0]; exact hP
  refine kHeap hH0 ?_
  clear hH0
  refine lv_aload_n hx hb dX11_plan_0 rfl (lv_at hl 0 rfl) ?_
  refine lv_iconst (v := 0) hx hb dX11_plan_1 (by decide) ?_
  refine va_put (D := D) (ci := 10) (v := .int 0) (ty := .int) (C := RX11) (T := TX11) (N := 26) hx hb hts iG_X11 tyX11 tyX11_ok nmX11 hown hK hP hD hS 0 rfl rfl 0 (by decide) (hts _ w6_8) (fun _ h9 => h9) rfl (by decide +kernel) rfl rfl (Nat.le_of_ble_eq_true rfl) dX11_plan_2 (fun H locs hP hD hS => ?_)
  have hP : va_P D vwCl [(h, oX11 0 aw ai ab ac hi re aP ta po en be de fa a5 sp av an ak ne aW aC ag aT aN aF), (aw, kcI cI 2179 fw), (av, kcI cI 400 fv), (an, kcI cI 10 fn), (ak, kcI cI 10 fk), (aW, kcJ cJ 4096 fW), (aC, kcI cI 4096 fC), (ag, kcI cI 10 fg)] H := hP
  have hD : va_D A [(h, oX11 0 aw ai ab ac hi re aP ta po en be de fa a5 sp av an ak ne aW aC ag aT aN aF), (aw, kcI cI 2179 fw), (av, kcI cI 400 fv), (an, kcI cI 10 fn), (ak, kcI cI 10 fk), (aW, kcJ cJ 4096 fW), (aC, kcI cI 4096 fC), (ag, kcI cI 10 fg)] := hD
  refine lv_aload_n hx hb dX11_plan_5 rfl (lv_at hl 0 rfl) ?_
  refine lv_aload_n hx hb dX11_plan_6 rfl (lv_at hl 0 rfl) ?_
  refine lv_iload_n hx hb dX11_plan_7 rfl (lv_at hl 1 rfl) ?_
  refine kpurei (wc := [(h, oX11 0 aw ai ab ac hi re aP ta po en be de fa a5 sp av an ak ne aW aC ag aT aN aF), (aw, kcI cI 2179 fw)]) hP hD hS hA [0, 1] rfl (by decide) (fun hPc hDc hFc => va_runV (As := [.int a1]) (rest := [.ref h]) ⟨hx, hb, hml, hown, hts⟩ (r_noMan l D cI cJ cB cC h 0 aw ai ab ac hi re aP ta po en be de fa a5 sp av an ak ne aW aC ag aT aN aF fw a1 H.size H_fw_W) (cwV 1 hts gX11_plan_X11_noMan rfl rfl rfl ⟨rfl, hdX11_noMan⟩ ⟨Nat.le_of_ble_eq_true rfl, Nat.le_of_ble_eq_true rfl⟩) ⟨kBlind, va_recv hK hPc (ci := 10) (q0 := 0) rfl rfl, fun U hU hW => ⟨rfl, by rw [hU], hN.warm hW, hE.pass hS hFc hW hU, by rw [hU]; exact hPc, va_K.moved hW.alike hK, hDc⟩⟩ rfl rfl hl.1 rfl (lv_room (Nat.le_of_ble_eq_true rfl)) dX11_plan_8 ⟨Nat.le_of_ble_eq_true rfl, Nat.le_of_ble_eq_true rfl⟩) (fun r1 u H locs hw hP hS => ?_)
  obtain ⟨k2, hw⟩ := hw
  rcases hw with ⟨rfl, kc3_0, kc3_1⟩ | rfl
  · skip
    refine lv_iconst (v := 1) hx hb dX11_plan_11 (by decide) ?_
    refine kpurei (wc := [(h, oX11 0 aw ai ab ac hi re aP ta po en be de fa a5 sp av an ak ne aW aC ag aT aN aF)]) hP hD hS hA [0] rfl (by decide) (fun hPc hDc hFc => va_runV (As := [.int 0, .int 1]) (rest := []) ⟨hx, hb, hml, hown, hts⟩ (r_throwsIf0_1 l D cI cJ cB cC h 0 aw ai ab ac hi re aP ta po en be de fa a5 sp av an ak ne aW aC ag aT aN aF 1 H.size) (cwV 2 hts gX11_plan_X11_throwsIf rfl rfl rfl ⟨rfl, hdX11_throwsIf⟩ ⟨Nat.le_of_ble_eq_true rfl, Nat.le_of_ble_eq_true rfl⟩) ⟨kBlind, va_recv hK hPc (ci := 10) (q0 := 0) rfl rfl, fun U hU hW => ⟨rfl, by rw [hU], hN.warm hW, hE.pass hS hFc hW hU, by rw [hU]; exact hPc, va_K.moved hW.alike hK, hDc⟩⟩ rfl rfl hl.1 rfl (lv_room (Nat.le_of_ble_eq_true rfl)) dX11_plan_12 ⟨Nat.le_of_ble_eq_true rfl, Nat.le_of_ble_eq_true rfl⟩) (fun r4 u H locs hw hP hS => ?_)
    obtain ⟨k5, k6⟩ := hw
    refine lv_if_eq (tgt := 20) hx hb dX11_plan_15 (by decide) (fun _ => ?_) (fun c7 => absurd (rg_eq k5 (rg_lit (n := 0) (by decide)) (by decide)) c7)
    refine lv_aload_n hx hb dX11_plan_20 rfl (lv_at hl 0 rfl) ?_
    refine lv_iload_n hx hb dX11_plan_21 rfl (lv_at hl 2 rfl) ?_
    refine kcalli (wc := [(h, oX11 0 aw ai ab ac hi re aP ta po en be de fa a5 sp av an ak ne aW aC ag aT aN aF), (aw, kcI cI 2179 fw), (av, kcI cI 400 fv), (an, kcI cI 10 fn), (ak, kcI cI 10 fk), (aW, kcJ cJ 4096 fW), (aC, kcI cI 4096 fC), (ag, kcI cI 10 fg)]) (wr := []) hP hD hS hA [0, 1, 2, 3, 4, 5, 6, 7] [] rfl rfl (by decide) (by decide) (by decide) (fun hPc hDc hFc => va_runV (As := [.int 1]) (rest := []) ⟨hx, hb, hml, hown, hts⟩ (r_plans1 l D cI cJ cB cC h 0 aw ai ab ac hi re aP ta po en be de fa a5 sp av an ak ne aW aC ag aT aN aF fw fv fn fk fW fC fg H.size H_fw_W H_fw_L H_fn_N H_fk_K H_fC_F) (cwV 1 hts gX11_plan_X11_plans rfl rfl rfl ⟨rfl, hdX11_plans⟩ ⟨Nat.le_of_ble_eq_true rfl, Nat.le_of_ble_eq_true rfl⟩) ⟨kBlind, va_recv hK hPc (ci := 10) (q0 := 0) rfl rfl, fun U hU hW => ⟨rfl, by rw [hU], hN.warm hW, hE.pass hS hFc hW hU, by rw [hU]; exact hPc, va_K.moved hW.alike hK, hDc⟩⟩ rfl rfl hl.1 rfl (lv_room (Nat.le_of_ble_eq_true rfl)) dX11_plan_22 ⟨Nat.le_of_ble_eq_true rfl, Nat.le_of_ble_eq_true rfl⟩) (fun r8 u H locs hw hP hD hS => ?_)
    obtain ⟨x9, g10, g11, g12, g13, g14, g15⟩ := u
    have hP : va_P D vwCl [(h, oX11 0 aw ai ab ac hi re aP ta po en be de fa a5 sp av an ak x9 aW aC ag aT aN aF), (aw, kcI cI 2179 fw), (av, kcI cI 400 g10), (an, kcI cI 10 g11), (ak, kcI cI 10 g12), (aW, kcJ cJ 4096 g13), (aC, kcI cI 4096 g14), (ag, kcI cI 10 g15)] H := hP
    have hD : va_D A [(h, oX11 0 aw ai ab ac hi re aP ta po en be de fa a5 sp av an ak x9 aW aC ag aT aN aF), (aw, kcI cI 2179 fw), (av, kcI cI 400 g10), (an, kcI cI 10 g11), (ak, kcI cI 10 g12), (aW, kcJ cJ 4096 g13), (aC, kcI cI 4096 g14), (ag, kcI cI 10 g15)] := hD
    obtain ⟨k16, k17, k18, k19, k20, hw⟩ := hw
    rcases hw with rfl | ⟨rfl, kc21_0⟩
    · skip
      refine lv_if_eq (tgt := 37) hx hb dX11_plan_25 (by decide) (fun _ => ?_) (fun c23 => absurd (by decide) c23)
      refine lv_iconst (v := (-1)) hx hb dX11_plan_37 (by decide) ?_
      have hP9 := hP.sub (ws' := [(h, oX11 0 aw ai ab ac hi re aP ta po en be de fa a5 sp av an ak x9 aW aC ag aT aN aF), (aw, kcI cI 2179 fw), (av, kcI cI 400 g10), (an, kcI cI 10 g11), (ak, kcI cI 10 g12), (aW, kcJ cJ 4096 g13), (aC, kcI cI 4096 g14), (ag, kcI cI 10 g15)]) [0, 1, 2, 3, 4, 5, 6, 7] rfl
      have hD9 := hD.sub (ws' := [(h, oX11 0 aw ai ab ac hi re aP ta po en be de fa a5 sp av an ak x9 aW aC ag aT aN aF), (aw, kcI cI 2179 fw), (av, kcI cI 400 g10), (an, kcI cI 10 g11), (ak, kcI cI 10 g12), (aW, kcJ cJ 4096 g13), (aC, kcI cI 4096 g14), (ag, kcI cI 10 g15)]) [0, 1, 2, 3, 4, 5, 6, 7] (by decide) rfl
      exact W.iret (v := (-1)) hx hb hr (fun t ht hW => ⟨⟨(-1), ((0 : Int32), x9, g10, g11, g12, g13, g14, g15), rfl, ⟨k17, k18, k19, (kLet_eq (k2).symm (kif_t rfl (kLet_eq (k6).symm (kC_eq k20 (kC_eq rfl (kC_eq rfl (kC_eq rfl (kC_eq rfl (kC_eq rfl (kC_eq rfl (kif_t rfl rfl)))))))))))⟩, by rw [ht]; exact hP9, va_K.moved hW.alike hK, hD9⟩, hS.F ht⟩) hS.2.2 dX11_plan_38
    · skip
      refine lv_if_eq (tgt := 37) hx hb dX11_plan_25 (by decide) (fun c26 => absurd c26 (by decide)) (fun _ => ?_)
      refine lv_aload_n hx hb dX11_plan_28 rfl (lv_at hl 0 rfl) ?_
      refine va_get (D := D) (ci := 10) (v := .ref ag) (C := RX11) (T := TX11) (N := 26) hx hb hts iG_X11 hown hK hP 0 rfl rfl 22 (by decide) (hts _ w5_16) (fun _ h9 => h9) rfl dX11_plan_29 ?_
      refine lv_iload_n hx hb dX11_plan_32 rfl (lv_at hl 1 rfl) ?_
      refine va_iald hx hb hK hP 7 0 rfl rfl (rg_in kc3_0 (by decide)) dX11_plan_33 ?_
      refine lv_topi (fun x27 ex27 => ?_)
      refine lv_goto (tgt := 38) hx hb dX11_plan_34 (by decide) ?_
      have hP9 := hP.sub (ws' := [(h, oX11 0 aw ai ab ac hi re aP ta po en be de fa a5 sp av an ak x9 aW aC ag aT aN aF), (aw, kcI cI 2179 fw), (av, kcI cI 400 g10), (an, kcI cI 10 g11), (ak, kcI cI 10 g12), (aW, kcJ cJ 4096 g13), (aC, kcI cI 4096 g14), (ag, kcI cI 10 g15)]) [0, 1, 2, 3, 4, 5, 6, 7] rfl
      have hD9 := hD.sub (ws' := [(h, oX11 0 aw ai ab ac hi re aP ta po en be de fa a5 sp av an ak x9 aW aC ag aT aN aF), (aw, kcI cI 2179 fw), (av, kcI cI 400 g10), (an, kcI cI 10 g11), (ak, kcI cI 10 g12), (aW, kcJ cJ 4096 g13), (aC, kcI cI 4096 g14), (ag, kcI cI 10 g15)]) [0, 1, 2, 3, 4, 5, 6, 7] (by decide) rfl
      exact W.iret (v := x27) hx hb hr (fun t ht hW => ⟨⟨x27, ((0 : Int32), x9, g10, g11, g12, g13, g14, g15), rfl, ⟨k17, k18, k19, (kLet_eq (k2).symm (kif_t rfl (kLet_eq (k6).symm (kC_eq k20 (kC_eq rfl (kC_eq rfl (kC_eq rfl (kC_eq rfl (kC_eq rfl (kC_eq rfl (kif_f (by decide) (kLet_eq (ke_ld ex27) rfl))))))))))))⟩, by rw [ht]; exact hP9, va_K.moved hW.alike hK, hD9⟩, hS.F ht⟩) hS.2.2 dX11_plan_38
  · skip
    refine lv_iconst (v := 1) hx hb dX11_plan_11 (by decide) ?_
    refine kcalli (wc := [(h, oX11 0 aw ai ab ac hi re aP ta po en be de fa a5 sp av an ak ne aW aC ag aT aN aF)]) (wr := [(aw, kcI cI 2179 fw), (av, kcI cI 400 fv), (an, kcI cI 10 fn), (ak, kcI cI 10 fk), (aW, kcJ cJ 4096 fW), (aC, kcI cI 4096 fC), (ag, kcI cI 10 fg)]) hP hD hS hA [0] [1, 2, 3, 4, 5, 6, 7] rfl rfl (by decide) (by decide) (by decide) (fun hPc hDc hFc => va_runV (As := [.int 1, .int 1]) (rest := []) ⟨hx, hb, hml, hown, hts⟩ (r_throwsIf1_1 l D cI cJ cB cC h 0 aw ai ab ac hi re aP ta po en be de fa a5 sp av an ak ne aW aC ag aT aN aF 1 H.size) (cwV 2 hts gX11_plan_X11_throwsIf rfl rfl rfl ⟨rfl, hdX11_throwsIf⟩ ⟨Nat.le_of_ble_eq_true rfl, Nat.le_of_ble_eq_true rfl⟩) ⟨kBlind, va_recv hK hPc (ci := 10) (q0 := 0) rfl rfl, fun U hU hW => ⟨rfl, by rw [hU], hN.warm hW, hE.pass hS hFc hW hU, by rw [hU]; exact hPc, va_K.moved hW.alike hK, hDc⟩⟩ rfl rfl hl.1 rfl (lv_room (Nat.le_of_ble_eq_true rfl)) dX11_plan_12 ⟨Nat.le_of_ble_eq_true rfl, Nat.le_of_ble_eq_true rfl⟩) (fun r28 u H locs hw hP hD hS => ?_)
    obtain ⟨x29, rfl⟩ : ∃ z, z = u := ⟨_, rfl⟩
    have hP : va_P D vwCl [(aw, kcI cI 2179 fw), (av, kcI cI 400 fv), (an, kcI cI 10 fn), (ak, kcI cI 10 fk), (aW, kcJ cJ 4096 fW), (aC, kcI cI 4096 fC), (ag, kcI cI 10 fg), (h, oX11 x29 aw ai ab ac hi re aP ta po en be de fa a5 sp av an ak ne aW aC ag aT aN aF)] H := hP
    have hD : va_D A [(aw, kcI cI 2179 fw), (av, kcI cI 400 fv), (an, kcI cI 10 fn), (ak, kcI cI 10 fk), (aW, kcJ cJ 4096 fW), (aC, kcI cI 4096 fC), (ag, kcI cI 10 fg), (h, oX11 x29 aw ai ab ac hi re aP ta po en be de fa a5 sp av an ak ne aW aC ag aT aN aF)] := hD
    obtain ⟨k30, k31⟩ := hw
    refine lv_if_eq (tgt := 20) hx hb dX11_plan_15 (by decide) (fun c32 => absurd c32 (rg_neq k30 (rg_lit (n := 0) (by decide)) (by decide))) (fun _ => ?_)
    refine lv_iconst (v := 0) hx hb dX11_plan_18 (by decide) ?_
    have hP9 := hP.sub (ws' := [(h, oX11 x29 aw ai ab ac hi re aP ta po en be de fa a5 sp av an ak ne aW aC ag aT aN aF), (aw, kcI cI 2179 fw), (av, kcI cI 400 fv), (an, kcI cI 10 fn), (ak, kcI cI 10 fk), (aW, kcJ cJ 4096 fW), (aC, kcI cI 4096 fC), (ag, kcI cI 10 fg)]) [7, 0, 1, 2, 3, 4, 5, 6] rfl
    have hD9 := hD.sub (ws' := [(h, oX11 x29 aw ai ab ac hi re aP ta po en be de fa a5 sp av an ak ne aW aC ag aT aN aF), (aw, kcI cI 2179 fw), (av, kcI cI 400 fv), (an, kcI cI 10 fn), (ak, kcI cI 10 fk), (aW, kcJ cJ 4096 fW), (aC, kcI cI 4096 fC), (ag, kcI cI 10 fg)]) [7, 0, 1, 2, 3, 4, 5, 6] (by decide) rfl
    exact W.iret (v := 0) hx hb hr (fun t ht hW => ⟨⟨0, (x29, ne, fv, fn, fk, fW, fC, fg), rfl, ⟨H_fn_N, H_fk_K, H_fC_F, (kLet_eq (k2).symm (kif_f (by decide) (kC_eq k31 rfl)))⟩, by rw [ht]; exact hP9, va_K.moved hW.alike hK, hD9⟩, hS.F ht⟩) hS.2.2 dX11_plan_19

set_option maxHeartbeats 4000000 in
set_option maxRecDepth 100000 in
/-- reference: hand -/
theorem r_hand1 (l : Launch) (D : va_G) (cI cJ cB cC : ClassId) (h : Nat) (th : Int32) (aw : Nat) (ai : Nat) (ab : Nat) (ac : Nat) (hi : Int32) (re : Int32) (aP : Nat) (ta : Int32) (po : Int32) (en : Int32) (be : Int32) (de : Int32) (fa : Int32) (a5 : Nat) (sp : Int32) (av : Nat) (an : Nat) (ak : Nat) (ne : Int32) (aW : Nat) (aC : Nat) (ag : Nat) (aT : Nat) (aN : Nat) (aF : Nat) (fw : Nat → Int32) (fv : Nat → Int32) (fn : Nat → Int32) (fk : Nat → Int32) (fW : Nat → Int64) (fC : Nat → Int32) (fg : Nat → Int32) (fc : Nat → Int32) (sz : Nat) (H_re : Rg re 0 12) (H_fw_W : wW fw) (H_fw_B : wB fw) (H_fw_L : wL fw) (H_fn_N : wN fn) (H_fk_K : wK fk) (H_fC_F : wF fC) (H_fc_C : wC fc) : Met l yX11_hand kwX11_hand ({ frames := 10, cells := 0, slots := 0, locals := 235 } : Room) (kPre D (kT cI cJ cB cC) sz [(h, oX11 th aw ai ab ac hi re aP ta po en be de fa a5 sp av an ak ne aW aC ag aT aN aF), (aw, kcI cI 2179 fw), (av, kcI cI 400 fv), (an, kcI cI 10 fn), (ak, kcI cI 10 fk), (aW, kcJ cJ 4096 fW), (aC, kcI cI 4096 fC), (ag, kcI cI 10 fg), (ac, kcI cI 6060 fc)] [.ref h, .int 1]) (va_Qi (fun (r : Int32) (uu : Int32 × Int32 × Int32 × (Nat → Int32) × (Nat → Int32) × (Nat → Int32) × (Nat → Int32) × (Nat → Int64) × (Nat → Int32) × (Nat → Int32) × (Nat → Int32)) => match uu with | (n0_, n1_, n2_, f3_, f4_, f5_, f6_, f7_, f8_, f9_, f10_) => Rg n1_ 0 12 ∧ Rg n2_ 0 10 ∧ wB f3_ ∧ wL f3_ ∧ wW f3_ ∧ wN f5_ ∧ wK f6_ ∧ wF f8_ ∧ wC f10_ ∧ Rg r 0 10 ∧ F_r_hand1 (re : Int32).toInt (gT fw) (gT fv) (gT fn) (gT fk) fW (gT fC) (gT fg) (gT fc) = ((r : Int32).toInt, (n0_ : Int32).toInt, (n1_ : Int32).toInt, (n2_ : Int32).toInt, (gT f3_), (gT f4_), (gT f5_), (gT f6_), f7_, (gT f8_), (gT f9_), (gT f10_))) (fun (uu : Int32 × Int32 × Int32 × (Nat → Int32) × (Nat → Int32) × (Nat → Int32) × (Nat → Int32) × (Nat → Int64) × (Nat → Int32) × (Nat → Int32) × (Nat → Int32)) (t : State) => match uu with | (n0_, n1_, n2_, f3_, f4_, f5_, f6_, f7_, f8_, f9_, f10_) => kB D (kT cI cJ cB cC) (va_A [(h, oX11 th aw ai ab ac hi re aP ta po en be de fa a5 sp av an ak ne aW aC ag aT aN aF), (aw, kcI cI 2179 fw), (av, kcI cI 400 fv), (an, kcI cI 10 fn), (ak, kcI cI 10 fk), (aW, kcJ cJ 4096 fW), (aC, kcI cI 4096 fC), (ag, kcI cI 10 fg), (ac, kcI cI 6060 fc)] sz) [(h, oX11 n0_ aw ai ab ac hi n1_ aP ta po en be de fa a5 sp av an ak n2_ aW aC ag aT aN aF), (aw, kcI cI 2179 f3_), (av, kcI cI 400 f4_), (an, kcI cI 10 f5_), (ak, kcI cI 10 f6_), (aW, kcJ cJ 4096 f7_), (aC, kcI cI 4096 f8_), (ag, kcI cI 10 f9_), (ac, kcI cI 6060 f10_)] t) (va_A [(h, oX11 th aw ai ab ac hi re aP ta po en be de fa a5 sp av an ak ne aW aC ag aT aN aF), (aw, kcI cI 2179 fw), (av, kcI cI 400 fv), (an, kcI cI 10 fn), (ak, kcI cI 10 fk), (aW, kcJ cJ 4096 fW), (aC, kcI cI 4096 fC), (ag, kcI cI 10 fg), (ac, kcI cI 6060 fc)] sz)) 0 0 (va_A [(h, oX11 th aw ai ab ac hi re aP ta po en be de fa a5 sp av an ak ne aW aC ag aT aN aF), (aw, kcI cI 2179 fw), (av, kcI cI 400 fv), (an, kcI cI 10 fn), (ak, kcI cI 10 fk), (aW, kcJ cJ 4096 fW), (aC, kcI cI 4096 fC), (ag, kcI cI 10 fg), (ac, kcI cI 6060 fc)] sz) := by
  refine Met.ofW (cc := cX11_hand) (maxL := 3) (ret := (some .int)) (by decide) rfl ?_
  intro p e s m args below meth c s₁ B hml hv
  obtain ⟨rfl, hsz, hN, hE, hP, hK, hD0⟩ := hv
  have hx := B.exec
  have hb := B.bytes
  have hr := B.returns
  have hts := fun (w : Cond) (h : w ∈ kG) => atoms_spec (ws := kwX11_hand) B.pre w (List.mem_cons_of_mem _ h)
  have hown : s.vm.findClass RX11 = some m.cls := findClass_of_methodNamed B.named
  subst hsz
  have hD := hD0.self (sz := s.heap.size)
  generalize hAe : va_A [(h, oX11 th aw ai ab ac hi re aP ta po en be de fa a5 sp av an ak ne aW aC ag aT aN aF), (aw, kcI cI 2179 fw), (av, kcI cI 400 fv), (an, kcI cI 10 fn), (ak, kcI cI 10 fk), (aW, kcJ cJ 4096 fW), (aC, kcI cI 4096 fC), (ag, kcI cI 10 fg), (ac, kcI cI 6060 fc)] s.heap.size = A at hD hE ⊢
  have hA : ∀ q : Nat, s.heap.size ≤ q → A q := fun q h => by rw [← hAe]; exact Or.inr h
  have hl := lv_entry ([.ref h, .int 1]) (n := 3) (Nat.le_of_ble_eq_true rfl)
  rw [lg_entry_eq]
  generalize (lg_sl ([.ref h, .int 1]) ++ List.replicate (3 - (lg_sl ([.ref h, .int 1])).length) Slot.unset).toArray = ls at hl ⊢
  have hl : lv_has ls 3 [(0, .ref h), (1, .int 1)] := hl
  obtain ⟨H, hH0⟩ : ∃ H, H = s.heap := ⟨_, rfl⟩
  have hS : va_S A s.heap H [] := by rw [hH0]; exact va_S.rf
  have hP : va_P D vwCl [(h, oX11 th aw ai ab ac hi re aP ta po en be de fa a5 sp av an ak ne aW aC ag aT aN aF), (aw, kcI cI 2179 fw), (av, kcI cI 400 fv), (an, kcI cI 10 fn), (ak, kcI cI 10 fk), (aW, kcJ cJ 4096 fW), (aC, kcI cI 4096 fC), (ag, kcI cI 10 fg), (ac, kcI cI 6060 fc)] H := by rw [hH0]; exact hP
  refine kHeap hH0 ?_
  clear hH0
  refine lv_aload_n hx hb dX11_hand_0 rfl (lv_at hl 0 rfl) ?_
  refine lv_iconst (v := 0) hx hb dX11_hand_1 (by decide) ?_
  refine va_put (D := D) (ci := 10) (v := .int 0) (ty := .int) (C := RX11) (T := TX11) (N := 26) hx hb hts iG_X11 tyX11 tyX11_ok nmX11 hown hK hP hD hS 0 rfl rfl 0 (by decide) (hts _ w6_8) (fun _ h9 => h9) rfl (by decide +kernel) rfl rfl (Nat.le_of_ble_eq_true rfl) dX11_hand_2 (fun H locs hP hD hS => ?_)
  have hP : va_P D vwCl [(h, oX11 0 aw ai ab ac hi re aP ta po en be de fa a5 sp av an ak ne aW aC ag aT aN aF), (aw, kcI cI 2179 fw), (av, kcI cI 400 fv), (an, kcI cI 10 fn), (ak, kcI cI 10 fk), (aW, kcJ cJ 4096 fW), (aC, kcI cI 4096 fC), (ag, kcI cI 10 fg), (ac, kcI cI 6060 fc)] H := hP
  have hD : va_D A [(h, oX11 0 aw ai ab ac hi re aP ta po en be de fa a5 sp av an ak ne aW aC ag aT aN aF), (aw, kcI cI 2179 fw), (av, kcI cI 400 fv), (an, kcI cI 10 fn), (ak, kcI cI 10 fk), (aW, kcJ cJ 4096 fW), (aC, kcI cI 4096 fC), (ag, kcI cI 10 fg), (ac, kcI cI 6060 fc)] := hD
  refine lv_aload_n hx hb dX11_hand_5 rfl (lv_at hl 0 rfl) ?_
  refine lv_aload_n hx hb dX11_hand_6 rfl (lv_at hl 0 rfl) ?_
  refine lv_iload_n hx hb dX11_hand_7 rfl (lv_at hl 1 rfl) ?_
  refine kcalli (wc := [(h, oX11 0 aw ai ab ac hi re aP ta po en be de fa a5 sp av an ak ne aW aC ag aT aN aF), (aw, kcI cI 2179 fw), (av, kcI cI 400 fv), (an, kcI cI 10 fn), (ak, kcI cI 10 fk), (aW, kcJ cJ 4096 fW), (aC, kcI cI 4096 fC), (ag, kcI cI 10 fg)]) (wr := [(ac, kcI cI 6060 fc)]) hP hD hS hA [0, 1, 2, 3, 4, 5, 6, 7] [8] rfl rfl (by decide) (by decide) (by decide) (fun hPc hDc hFc => va_runV (As := [.int 1]) (rest := [.ref h]) ⟨hx, hb, hml, hown, hts⟩ (r_plans1 l D cI cJ cB cC h 0 aw ai ab ac hi re aP ta po en be de fa a5 sp av an ak ne aW aC ag aT aN aF fw fv fn fk fW fC fg H.size H_fw_W H_fw_L H_fn_N H_fk_K H_fC_F) (cwV 1 hts gX11_hand_X11_plans rfl rfl rfl ⟨rfl, hdX11_plans⟩ ⟨Nat.le_of_ble_eq_true rfl, Nat.le_of_ble_eq_true rfl⟩) ⟨kBlind, va_recv hK hPc (ci := 10) (q0 := 0) rfl rfl, fun U hU hW => ⟨rfl, by rw [hU], hN.warm hW, hE.pass hS hFc hW hU, by rw [hU]; exact hPc, va_K.moved hW.alike hK, hDc⟩⟩ rfl rfl hl.1 rfl (lv_room (Nat.le_of_ble_eq_true rfl)) dX11_hand_8 ⟨Nat.le_of_ble_eq_true rfl, Nat.le_of_ble_eq_true rfl⟩) (fun r1 u H locs hw hP hD hS => ?_)
  obtain ⟨x2, g3, g4, g5, g6, g7, g8⟩ := u
  have hP : va_P D vwCl [(ac, kcI cI 6060 fc), (h, oX11 0 aw ai ab ac hi re aP ta po en be de fa a5 sp av an ak x2 aW aC ag aT aN aF), (aw, kcI cI 2179 fw), (av, kcI cI 400 g3), (an, kcI cI 10 g4), (ak, kcI cI 10 g5), (aW, kcJ cJ 4096 g6), (aC, kcI cI 4096 g7), (ag, kcI cI 10 g8)] H := hP
  have hD : va_D A [(ac, kcI cI 6060 fc), (h, oX11 0 aw ai ab ac hi re aP ta po en be de fa a5 sp av an ak x2 aW aC ag aT aN aF), (aw, kcI cI 2179 fw), (av, kcI cI 400 g3), (an, kcI cI 10 g4), (ak, kcI cI 10 g5), (aW, kcJ cJ 4096 g6), (aC, kcI cI 4096 g7), (ag, kcI cI 10 g8)] := hD
  obtain ⟨k9, k10, k11, k12, k13, hw⟩ := hw
  rcases hw with rfl | ⟨rfl, kc14_0⟩
  · skip
    refine lv_if_ne (tgt := 18) hx hb dX11_hand_11 (by decide) (fun c16 => absurd (by decide) c16) (fun _ => ?_)
    refine lv_iconst (v := 1) hx hb dX11_hand_14 (by decide) ?_
    refine lv_goto (tgt := 19) hx hb dX11_hand_15 (by decide) ?_
    refine lv_iconst (v := 1) hx hb dX11_hand_19 (by decide) ?_
    refine kcalli (wc := [(h, oX11 0 aw ai ab ac hi re aP ta po en be de fa a5 sp av an ak x2 aW aC ag aT aN aF)]) (wr := [(ac, kcI cI 6060 fc), (aw, kcI cI 2179 fw), (av, kcI cI 400 g3), (an, kcI cI 10 g4), (ak, kcI cI 10 g5), (aW, kcJ cJ 4096 g6), (aC, kcI cI 4096 g7), (ag, kcI cI 10 g8)]) hP hD hS hA [1] [0, 2, 3, 4, 5, 6, 7, 8] rfl rfl (by decide) (by decide) (by decide) (fun hPc hDc hFc => va_runV (As := [.int 1, .int 1]) (rest := []) ⟨hx, hb, hml, hown, hts⟩ (r_throwsIf1_1 l D cI cJ cB cC h 0 aw ai ab ac hi re aP ta po en be de fa a5 sp av an ak x2 aW aC ag aT aN aF 1 H.size) (cwV 2 hts gX11_hand_X11_throwsIf rfl rfl rfl ⟨rfl, hdX11_throwsIf⟩ ⟨Nat.le_of_ble_eq_true rfl, Nat.le_of_ble_eq_true rfl⟩) ⟨kBlind, va_recv hK hPc (ci := 10) (q0 := 0) rfl rfl, fun U hU hW => ⟨rfl, by rw [hU], hN.warm hW, hE.pass hS hFc hW hU, by rw [hU]; exact hPc, va_K.moved hW.alike hK, hDc⟩⟩ rfl rfl hl.1 rfl (lv_room (Nat.le_of_ble_eq_true rfl)) dX11_hand_20 ⟨Nat.le_of_ble_eq_true rfl, Nat.le_of_ble_eq_true rfl⟩) (fun r17 u H locs hw hP hD hS => ?_)
    obtain ⟨x18, rfl⟩ : ∃ z, z = u := ⟨_, rfl⟩
    have hP : va_P D vwCl [(ac, kcI cI 6060 fc), (aw, kcI cI 2179 fw), (av, kcI cI 400 g3), (an, kcI cI 10 g4), (ak, kcI cI 10 g5), (aW, kcJ cJ 4096 g6), (aC, kcI cI 4096 g7), (ag, kcI cI 10 g8), (h, oX11 x18 aw ai ab ac hi re aP ta po en be de fa a5 sp av an ak x2 aW aC ag aT aN aF)] H := hP
    have hD : va_D A [(ac, kcI cI 6060 fc), (aw, kcI cI 2179 fw), (av, kcI cI 400 g3), (an, kcI cI 10 g4), (ak, kcI cI 10 g5), (aW, kcJ cJ 4096 g6), (aC, kcI cI 4096 g7), (ag, kcI cI 10 g8), (h, oX11 x18 aw ai ab ac hi re aP ta po en be de fa a5 sp av an ak x2 aW aC ag aT aN aF)] := hD
    obtain ⟨k19, k20⟩ := hw
    refine lv_if_eq (tgt := 28) hx hb dX11_hand_23 (by decide) (fun c21 => absurd c21 (rg_neq k19 (rg_lit (n := 0) (by decide)) (by decide))) (fun _ => ?_)
    refine lv_iconst (v := 0) hx hb dX11_hand_26 (by decide) ?_
    have hP9 := hP.sub (ws' := [(h, oX11 x18 aw ai ab ac hi re aP ta po en be de fa a5 sp av an ak x2 aW aC ag aT aN aF), (aw, kcI cI 2179 fw), (av, kcI cI 400 g3), (an, kcI cI 10 g4), (ak, kcI cI 10 g5), (aW, kcJ cJ 4096 g6), (aC, kcI cI 4096 g7), (ag, kcI cI 10 g8), (ac, kcI cI 6060 fc)]) [8, 1, 2, 3, 4, 5, 6, 7, 0] rfl
    have hD9 := hD.sub (ws' := [(h, oX11 x18 aw ai ab ac hi re aP ta po en be de fa a5 sp av an ak x2 aW aC ag aT aN aF), (aw, kcI cI 2179 fw), (av, kcI cI 400 g3), (an, kcI cI 10 g4), (ak, kcI cI 10 g5), (aW, kcJ cJ 4096 g6), (aC, kcI cI 4096 g7), (ag, kcI cI 10 g8), (ac, kcI cI 6060 fc)]) [8, 1, 2, 3, 4, 5, 6, 7, 0] (by decide) rfl
    exact W.iret (v := 0) hx hb hr (fun t ht hW => ⟨⟨0, (x18, re, x2, fw, g3, g4, g5, g6, g7, g8, fc), rfl, ⟨H_re, k9, H_fw_B, H_fw_L, H_fw_W, k10, k11, k12, H_fc_C, (rg_w (rg_lit (n := 0) (by decide)) (by decide)), (kC_eq k13 (kC_eq rfl (kC_eq rfl (kC_eq rfl (kC_eq rfl (kC_eq rfl (kC_eq rfl (kif_t rfl (kC_eq k20 rfl)))))))))⟩, by rw [ht]; exact hP9, va_K.moved hW.alike hK, hD9⟩, hS.F ht⟩) hS.2.2 dX11_hand_27
  · skip
    refine lv_if_ne (tgt := 18) hx hb dX11_hand_11 (by decide) (fun _ => ?_) (fun c23 => absurd c23 (by decide))
    refine lv_iconst (v := 0) hx hb dX11_hand_18 (by decide) ?_
    refine lv_iconst (v := 1) hx hb dX11_hand_19 (by decide) ?_
    refine kpurei (wc := [(h, oX11 0 aw ai ab ac hi re aP ta po en be de fa a5 sp av an ak x2 aW aC ag aT aN aF)]) hP hD hS hA [1] rfl (by decide) (fun hPc hDc hFc => va_runV (As := [.int 0, .int 1]) (rest := []) ⟨hx, hb, hml, hown, hts⟩ (r_throwsIf0_1 l D cI cJ cB cC h 0 aw ai ab ac hi re aP ta po en be de fa a5 sp av an ak x2 aW aC ag aT aN aF 1 H.size) (cwV 2 hts gX11_hand_X11_throwsIf rfl rfl rfl ⟨rfl, hdX11_throwsIf⟩ ⟨Nat.le_of_ble_eq_true rfl, Nat.le_of_ble_eq_true rfl⟩) ⟨kBlind, va_recv hK hPc (ci := 10) (q0 := 0) rfl rfl, fun U hU hW => ⟨rfl, by rw [hU], hN.warm hW, hE.pass hS hFc hW hU, by rw [hU]; exact hPc, va_K.moved hW.alike hK, hDc⟩⟩ rfl rfl hl.1 rfl (lv_room (Nat.le_of_ble_eq_true rfl)) dX11_hand_20 ⟨Nat.le_of_ble_eq_true rfl, Nat.le_of_ble_eq_true rfl⟩) (fun r24 u H locs hw hP hS => ?_)
    obtain ⟨k25, k26⟩ := hw
    refine lv_if_eq (tgt := 28) hx hb dX11_hand_23 (by decide) (fun _ => ?_) (fun c27 => absurd (rg_eq k25 (rg_lit (n := 0) (by decide)) (by decide)) c27)
    refine lv_aload_n hx hb dX11_hand_28 rfl (lv_at hl 0 rfl) ?_
    refine kcallv (wc := [(h, oX11 0 aw ai ab ac hi re aP ta po en be de fa a5 sp av an ak x2 aW aC ag aT aN aF), (aw, kcI cI 2179 fw), (ac, kcI cI 6060 fc)]) (wr := [(av, kcI cI 400 g3), (an, kcI cI 10 g4), (ak, kcI cI 10 g5), (aW, kcJ cJ 4096 g6), (aC, kcI cI 4096 g7), (ag, kcI cI 10 g8)]) hP hD hS hA [1, 2, 0] [3, 4, 5, 6, 7, 8] rfl rfl (by decide) (by decide) (by decide) (fun hPc hDc hFc => va_runV (As := []) (rest := []) ⟨hx, hb, hml, hown, hts⟩ (r_remembers l D cI cJ cB cC h 0 aw ai ab ac hi re aP ta po en be de fa a5 sp av an ak x2 aW aC ag aT aN aF fw fc H.size H_re H_fw_W H_fw_B H_fw_L H_fc_C) (cwV 0 hts gX11_hand_X11_remembers rfl rfl rfl ⟨rfl, hdX11_remembers⟩ ⟨Nat.le_of_ble_eq_true rfl, Nat.le_of_ble_eq_true rfl⟩) ⟨kBlind, va_recv hK hPc (ci := 10) (q0 := 0) rfl rfl, fun U hU hW => ⟨rfl, by rw [hU], hN.warm hW, hE.pass hS hFc hW hU, by rw [hU]; exact hPc, va_K.moved hW.alike hK, hDc⟩⟩ rfl rfl hl.1 rfl (lv_room (Nat.le_of_ble_eq_true rfl)) dX11_hand_29 ⟨Nat.le_of_ble_eq_true rfl, Nat.le_of_ble_eq_true rfl⟩) (fun u H locs hw hP hD hS => ?_)
    obtain ⟨x28, g29⟩ := u
    have hP : va_P D vwCl [(av, kcI cI 400 g3), (an, kcI cI 10 g4), (ak, kcI cI 10 g5), (aW, kcJ cJ 4096 g6), (aC, kcI cI 4096 g7), (ag, kcI cI 10 g8), (h, oX11 0 aw ai ab ac hi x28 aP ta po en be de fa a5 sp av an ak x2 aW aC ag aT aN aF), (aw, kcI cI 2179 fw), (ac, kcI cI 6060 g29)] H := hP
    have hD : va_D A [(av, kcI cI 400 g3), (an, kcI cI 10 g4), (ak, kcI cI 10 g5), (aW, kcJ cJ 4096 g6), (aC, kcI cI 4096 g7), (ag, kcI cI 10 g8), (h, oX11 0 aw ai ab ac hi x28 aP ta po en be de fa a5 sp av an ak x2 aW aC ag aT aN aF), (aw, kcI cI 2179 fw), (ac, kcI cI 6060 g29)] := hD
    obtain ⟨k30, k31, k32⟩ := hw
    refine lv_iconst (v := 0) hx hb dX11_hand_32 (by decide) ?_
    refine lv_istore_n (lv' := [(2, .int 0), (0, .ref h), (1, .int 1)]) hx hb dX11_hand_33 rfl hl (by decide) rfl (fun ls hl => ?_)
    refine k_loop (hd := 34) (fun (u : Int32 × (Nat → Int32)) => match u with | (y317, g318) => (10 - (y317).toInt).toNat) (fun (u : Int32 × (Nat → Int32)) (H : Heap) (locs : List Loc) (ls : Array Slot) => match u with | (y317, g318) => (F_r_hand1 re.toInt (gT fw) (gT fv) (gT fn) (gT fk) fW (gT fC) (gT fg) (gT fc) = F_r_hand1_l1 x2.toInt (gT g3) (gT g4) (gT g5) g6 (gT g7) (gT g8) x28.toInt (gT g29) (y317.toInt, (gT g318))) ∧ Rg y317 0 10 ∧ wB g318 ∧ wL g318 ∧ wW g318 ∧ va_P D vwCl [(av, kcI cI 400 g3), (an, kcI cI 10 g4), (ak, kcI cI 10 g5), (aW, kcJ cJ 4096 g6), (aC, kcI cI 4096 g7), (ag, kcI cI 10 g8), (h, oX11 0 aw ai ab ac hi x28 aP ta po en be de fa a5 sp av an ak x2 aW aC ag aT aN aF), (aw, kcI cI 2179 g318), (ac, kcI cI 6060 g29)] H ∧ va_D A [(av, kcI cI 400 g3), (an, kcI cI 10 g4), (ak, kcI cI 10 g5), (aW, kcJ cJ 4096 g6), (aC, kcI cI 4096 g7), (ag, kcI cI 10 g8), (h, oX11 0 aw ai ab ac hi x28 aP ta po en be de fa a5 sp av an ak x2 aW aC ag aT aN aF), (aw, kcI cI 2179 g318), (ac, kcI cI 6060 g29)] ∧ va_S A s.heap H locs ∧ lv_has ls 3 [(2, .int y317), (0, .ref h), (1, .int 1)]) ((0 : Int32), fw) ⟨(kC_eq k13 (kC_eq rfl (kC_eq rfl (kC_eq rfl (kC_eq rfl (kC_eq rfl (kC_eq rfl (kif_f (by decide) (kLet_eq (k26).symm (kC_eq k32 rfl)))))))))), (rg_w (rg_lit (n := 0) (by decide)) (by decide)), H_fw_B, H_fw_L, H_fw_W, hP.sub (ws' := [(av, kcI cI 400 g3), (an, kcI cI 10 g4), (ak, kcI cI 10 g5), (aW, kcJ cJ 4096 g6), (aC, kcI cI 4096 g7), (ag, kcI cI 10 g8), (h, oX11 0 aw ai ab ac hi x28 aP ta po en be de fa a5 sp av an ak x2 aW aC ag aT aN aF), (aw, kcI cI 2179 fw), (ac, kcI cI 6060 g29)]) [0, 1, 2, 3, 4, 5, 6, 7, 8] rfl, hD.sub (ws' := [(av, kcI cI 400 g3), (an, kcI cI 10 g4), (ak, kcI cI 10 g5), (aW, kcJ cJ 4096 g6), (aC, kcI cI 4096 g7), (ag, kcI cI 10 g8), (h, oX11 0 aw ai ab ac hi x28 aP ta po en be de fa a5 sp av an ak x2 aW aC ag aT aN aF), (aw, kcI cI 2179 fw), (ac, kcI cI 6060 g29)]) [0, 1, 2, 3, 4, 5, 6, 7, 8] (by decide) rfl, hS, lv_sub (l' := [(2, .int 0), (0, .ref h), (1, .int 1)]) hl [0, 1, 2] rfl⟩ (fun u H locs ls hI ih319 => ?_)
    clear hP hD hS hl
    obtain ⟨y317, g318⟩ := u
    obtain ⟨hF1, hy317, hg318_0, hg318_1, hg318_2, hP, hD, hS, hl⟩ := hI
    have hP : va_P D vwCl [(av, kcI cI 400 g3), (an, kcI cI 10 g4), (ak, kcI cI 10 g5), (aW, kcJ cJ 4096 g6), (aC, kcI cI 4096 g7), (ag, kcI cI 10 g8), (h, oX11 0 aw ai ab ac hi x28 aP ta po en be de fa a5 sp av an ak x2 aW aC ag aT aN aF), (aw, kcI cI 2179 g318), (ac, kcI cI 6060 g29)] H := hP
    have hD : va_D A [(av, kcI cI 400 g3), (an, kcI cI 10 g4), (ak, kcI cI 10 g5), (aW, kcJ cJ 4096 g6), (aC, kcI cI 4096 g7), (ag, kcI cI 10 g8), (h, oX11 0 aw ai ab ac hi x28 aP ta po en be de fa a5 sp av an ak x2 aW aC ag aT aN aF), (aw, kcI cI 2179 g318), (ac, kcI cI 6060 g29)] := hD
    have hl : lv_has ls 3 [(2, .int y317), (0, .ref h), (1, .int 1)] := hl
    refine lv_iload_n hx hb dX11_hand_34 rfl (lv_at hl 0 rfl) ?_
    refine lv_aload_n hx hb dX11_hand_35 rfl (lv_at hl 1 rfl) ?_
    refine va_get (D := D) (ci := 10) (v := .int x2) (C := RX11) (T := TX11) (N := 26) hx hb hts iG_X11 hown hK hP 6 rfl rfl 19 (by decide) (hts _ w40_7) (fun _ h9 => h9) rfl dX11_hand_36 ?_
    refine lv_icmp_ge (tgt := 69) hx hb dX11_hand_39 (by decide) (fun c320 => ?_) (fun c320 => ?_)
    · skip
      refine lv_aload_n hx hb dX11_hand_69 rfl (lv_at hl 1 rfl) ?_
      refine va_get (D := D) (ci := 10) (v := .int x2) (C := RX11) (T := TX11) (N := 26) hx hb hts iG_X11 hown hK hP 6 rfl rfl 19 (by decide) (hts _ w40_7) (fun _ h9 => h9) rfl dX11_hand_70 ?_
      have hP9 := hP.sub (ws' := [(h, oX11 0 aw ai ab ac hi x28 aP ta po en be de fa a5 sp av an ak x2 aW aC ag aT aN aF), (aw, kcI cI 2179 g318), (av, kcI cI 400 g3), (an, kcI cI 10 g4), (ak, kcI cI 10 g5), (aW, kcJ cJ 4096 g6), (aC, kcI cI 4096 g7), (ag, kcI cI 10 g8), (ac, kcI cI 6060 g29)]) [6, 7, 0, 1, 2, 3, 4, 5, 8] rfl
      have hD9 := hD.sub (ws' := [(h, oX11 0 aw ai ab ac hi x28 aP ta po en be de fa a5 sp av an ak x2 aW aC ag aT aN aF), (aw, kcI cI 2179 g318), (av, kcI cI 400 g3), (an, kcI cI 10 g4), (ak, kcI cI 10 g5), (aW, kcJ cJ 4096 g6), (aC, kcI cI 4096 g7), (ag, kcI cI 10 g8), (ac, kcI cI 6060 g29)]) [6, 7, 0, 1, 2, 3, 4, 5, 8] (by decide) rfl
      exact W.iret (v := x2) hx hb hr (fun t ht hW => ⟨⟨x2, ((0 : Int32), x28, x2, g318, g3, g4, g5, g6, g7, g8, g29), rfl, ⟨(rg_w k30 (by decide)), k9, hg318_0, hg318_1, hg318_2, k10, k11, k12, k31, k9, (hF1.trans (kIter_out (kC_eq rfl (kif_t (leI c320) rfl))))⟩, by rw [ht]; exact hP9, va_K.moved hW.alike hK, hD9⟩, hS.F ht⟩) hS.2.2 dX11_hand_73
    · skip
      have k321 : Rg y317 0 9 := rg_l1 (nleI c320) hy317 k9 (by decide)
      have k322 : Rg x2 1 10 := rg_l2 (nleI c320) hy317 k9 (by decide)
      refine lv_aload_n hx hb dX11_hand_42 rfl (lv_at hl 1 rfl) ?_
      refine lv_aload_n hx hb dX11_hand_43 rfl (lv_at hl 1 rfl) ?_
      refine va_get (D := D) (ci := 10) (v := .ref an) (C := RX11) (T := TX11) (N := 26) hx hb hts iG_X11 hown hK hP 6 rfl rfl 17 (by decide) (hts _ w5_12) (fun _ h9 => h9) rfl dX11_hand_44 ?_
      refine lv_iload_n hx hb dX11_hand_47 rfl (lv_at hl 0 rfl) ?_
      refine va_iald hx hb hK hP 1 0 rfl rfl (rg_in k321 (by decide)) dX11_hand_48 ?_
      refine lv_topi (fun x323 ex323 => ?_)
      have k324 : Rg x323 0 9 := wN_rd k10 ex323
      refine lv_aload_n hx hb dX11_hand_49 rfl (lv_at hl 1 rfl) ?_
      refine va_get (D := D) (ci := 10) (v := .ref ag) (C := RX11) (T := TX11) (N := 26) hx hb hts iG_X11 hown hK hP 6 rfl rfl 22 (by decide) (hts _ w5_16) (fun _ h9 => h9) rfl dX11_hand_50 ?_
      refine lv_aload_n hx hb dX11_hand_53 rfl (lv_at hl 1 rfl) ?_
      refine va_get (D := D) (ci := 10) (v := .ref an) (C := RX11) (T := TX11) (N := 26) hx hb hts iG_X11 hown hK hP 6 rfl rfl 17 (by decide) (hts _ w5_12) (fun _ h9 => h9) rfl dX11_hand_54 ?_
      refine lv_iload_n hx hb dX11_hand_57 rfl (lv_at hl 0 rfl) ?_
      refine va_iald hx hb hK hP 1 0 rfl rfl (rg_in k321 (by decide)) dX11_hand_58 ?_
      refine lv_topi (fun x325 ex325 => ?_)
      have k326 : Rg x325 0 9 := wN_rd k10 ex325
      refine va_iald hx hb hK hP 5 0 rfl rfl (rg_in k326 (by decide)) dX11_hand_59 ?_
      refine lv_topi (fun x327 ex327 => ?_)
      have k328 : Rg x327 0 11 := (by rw [ex327, (cl_of (k := cN x325) k326 (by decide) (by simp only [cN]; have q1 := k326; unfold Rg at q1; omega)), ex325, (cl_of (k := cN y317) k321 (by decide) (by simp only [cN]; have q1 := k321; unfold Rg at q1; omega))]; exact kc14_0 (cN y317) (cn_lt2 (nleI c320) (by have q1 := k321; unfold Rg at q1; omega)))
      refine kcallv (wc := [(h, oX11 0 aw ai ab ac hi x28 aP ta po en be de fa a5 sp av an ak x2 aW aC ag aT aN aF), (aw, kcI cI 2179 g318)]) (wr := [(av, kcI cI 400 g3), (an, kcI cI 10 g4), (ak, kcI cI 10 g5), (aW, kcJ cJ 4096 g6), (aC, kcI cI 4096 g7), (ag, kcI cI 10 g8), (ac, kcI cI 6060 g29)]) hP hD hS hA [6, 7] [0, 1, 2, 3, 4, 5, 8] rfl rfl (by decide) (by decide) (by decide) (fun hPc hDc hFc => va_runV (As := [.int x323, .int x327]) (rest := []) ⟨hx, hb, hml, hown, hts⟩ (r_gives l D cI cJ cB cC h 0 aw ai ab ac hi x28 aP ta po en be de fa a5 sp av an ak x2 aW aC ag aT aN aF g318 x323 x327 H.size k324 k328 hg318_2 hg318_0 hg318_1) (cwV 2 hts gX11_hand_X11_gives rfl rfl rfl ⟨rfl, hdX11_gives⟩ ⟨Nat.le_of_ble_eq_true rfl, Nat.le_of_ble_eq_true rfl⟩) ⟨kBlind, va_recv hK hPc (ci := 10) (q0 := 0) rfl rfl, fun U hU hW => ⟨rfl, by rw [hU], hN.warm hW, hE.pass hS hFc hW hU, by rw [hU]; exact hPc, va_K.moved hW.alike hK, hDc⟩⟩ rfl rfl hl.1 rfl (lv_room (Nat.le_of_ble_eq_true rfl)) dX11_hand_60 ⟨Nat.le_of_ble_eq_true rfl, Nat.le_of_ble_eq_true rfl⟩) (fun u H locs hw hP hD hS => ?_)
      obtain ⟨g329, rfl⟩ : ∃ z, z = u := ⟨_, rfl⟩
      have hP : va_P D vwCl [(av, kcI cI 400 g3), (an, kcI cI 10 g4), (ak, kcI cI 10 g5), (aW, kcJ cJ 4096 g6), (aC, kcI cI 4096 g7), (ag, kcI cI 10 g8), (ac, kcI cI 6060 g29), (h, oX11 0 aw ai ab ac hi x28 aP ta po en be de fa a5 sp av an ak x2 aW aC ag aT aN aF), (aw, kcI cI 2179 g329)] H := hP
      have hD : va_D A [(av, kcI cI 400 g3), (an, kcI cI 10 g4), (ak, kcI cI 10 g5), (aW, kcJ cJ 4096 g6), (aC, kcI cI 4096 g7), (ag, kcI cI 10 g8), (ac, kcI cI 6060 g29), (h, oX11 0 aw ai ab ac hi x28 aP ta po en be de fa a5 sp av an ak x2 aW aC ag aT aN aF), (aw, kcI cI 2179 g329)] := hD
      obtain ⟨k330, k331, k332, k333⟩ := hw
      obtain ⟨x334, ex334⟩ : ∃ y : Int32, y = y317 + 1 := ⟨_, rfl⟩
      refine lv_iinc (v := x334) (lv' := [(2, .int x334), (0, .ref h), (1, .int 1)]) hx hb dX11_hand_63 hl (k := 0) rfl (by rw [ex334]; rfl) (by decide) rfl (fun ls hl => ?_)
      have k335 : Rg x334 1 10 := rg_add ex334 k321 (rg_lit (n := 1) (by decide)) (by decide)
      refine lv_goto (tgt := 34) hx hb dX11_hand_66 (by decide) ?_
      exact ih319 (x334, g329) _ _ _ (by show (10 - (x334).toInt).toNat < (10 - (y317).toInt).toNat; exact mu_up ex334 k321 k335 (by decide)) ⟨(hF1.trans (kIter_go (kC_eq rfl (kif_f (xF_le c320) (kLet_eq (ke_ld ex323) (kLet_eq (ke_ld ex325) (kLet_eq (ke_ld ex327) (kLet_eq (k333).symm (kLet_eq (ti_add ex334 k321 (rg_lit (n := 1) (by decide)) (by decide) rfl rfl) rfl))))))))), (rg_w k335 (by decide)), k330, k331, k332, hP.sub (ws' := [(av, kcI cI 400 g3), (an, kcI cI 10 g4), (ak, kcI cI 10 g5), (aW, kcJ cJ 4096 g6), (aC, kcI cI 4096 g7), (ag, kcI cI 10 g8), (h, oX11 0 aw ai ab ac hi x28 aP ta po en be de fa a5 sp av an ak x2 aW aC ag aT aN aF), (aw, kcI cI 2179 g329), (ac, kcI cI 6060 g29)]) [0, 1, 2, 3, 4, 5, 7, 8, 6] rfl, hD.sub (ws' := [(av, kcI cI 400 g3), (an, kcI cI 10 g4), (ak, kcI cI 10 g5), (aW, kcJ cJ 4096 g6), (aC, kcI cI 4096 g7), (ag, kcI cI 10 g8), (h, oX11 0 aw ai ab ac hi x28 aP ta po en be de fa a5 sp av an ak x2 aW aC ag aT aN aF), (aw, kcI cI 2179 g329), (ac, kcI cI 6060 g29)]) [0, 1, 2, 3, 4, 5, 7, 8, 6] (by decide) rfl, hS, lv_sub (l' := [(2, .int x334), (0, .ref h), (1, .int 1)]) hl [0, 1, 2] rfl⟩

set_option maxHeartbeats 4000000 in
set_option maxRecDepth 100000 in
/-- reference: draw -/
theorem r_drawx (l : Launch) (D : va_G) (cI cJ cB cC : ClassId) (h : Nat) (th : Int32) (aw : Nat) (ai : Nat) (ab : Nat) (ac : Nat) (hi : Int32) (re : Int32) (aP : Nat) (ta : Int32) (po : Int32) (en : Int32) (be : Int32) (de : Int32) (fa : Int32) (a5 : Nat) (sp : Int32) (av : Nat) (an : Nat) (ak : Nat) (ne : Int32) (aW : Nat) (aC : Nat) (ag : Nat) (aT : Nat) (aN : Nat) (aF : Nat) (fw : Nat → Int32) (n : Int32) (sz : Nat) (H_n : Rg n 1 100) (H_fw_W : wW fw) (H_fw_B : wB fw) (H_fw_L : wL fw) : Met l yX11_draw kwX11_draw ({ frames := 0, cells := 0, slots := 0, locals := 0 } : Room) (kPre D (kT cI cJ cB cC) sz [(h, oX11 th aw ai ab ac hi re aP ta po en be de fa a5 sp av an ak ne aW aC ag aT aN aF), (aw, kcI cI 2179 fw)] [.ref h, .int n]) (va_Qi (fun (r : Int32) (f0_ : (Nat → Int32)) => wB f0_ ∧ wL f0_ ∧ wW f0_ ∧ Rg r 0 99 ∧ ((r : Int32).toInt < (n : Int32).toInt) ∧ F_r_drawx (gT fw) (n : Int32).toInt = ((r : Int32).toInt, (gT f0_))) (fun (f0_ : (Nat → Int32)) (t : State) => kB D (kT cI cJ cB cC) (va_A [(h, oX11 th aw ai ab ac hi re aP ta po en be de fa a5 sp av an ak ne aW aC ag aT aN aF), (aw, kcI cI 2179 fw)] sz) [(h, oX11 th aw ai ab ac hi re aP ta po en be de fa a5 sp av an ak ne aW aC ag aT aN aF), (aw, kcI cI 2179 f0_)] t) (va_A [(h, oX11 th aw ai ab ac hi re aP ta po en be de fa a5 sp av an ak ne aW aC ag aT aN aF), (aw, kcI cI 2179 fw)] sz)) 0 0 (va_A [(h, oX11 th aw ai ab ac hi re aP ta po en be de fa a5 sp av an ak ne aW aC ag aT aN aF), (aw, kcI cI 2179 fw)] sz) := by
  refine Met.ofW (cc := cX11_draw) (maxL := 2) (ret := (some .int)) (by decide) rfl ?_
  intro p e s m args below meth c s₁ B hml hv
  obtain ⟨rfl, hsz, hN, hE, hP, hK, hD0⟩ := hv
  have hx := B.exec
  have hb := B.bytes
  have hr := B.returns
  have hts := fun (w : Cond) (h : w ∈ kG) => atoms_spec (ws := kwX11_draw) B.pre w (List.mem_cons_of_mem _ h)
  have hown : s.vm.findClass RX11 = some m.cls := findClass_of_methodNamed B.named
  subst hsz
  have hD := hD0.self (sz := s.heap.size)
  generalize hAe : va_A [(h, oX11 th aw ai ab ac hi re aP ta po en be de fa a5 sp av an ak ne aW aC ag aT aN aF), (aw, kcI cI 2179 fw)] s.heap.size = A at hD hE ⊢
  have hA : ∀ q : Nat, s.heap.size ≤ q → A q := fun q h => by rw [← hAe]; exact Or.inr h
  have hl := lv_entry ([.ref h, .int n]) (n := 2) (Nat.le_of_ble_eq_true rfl)
  rw [lg_entry_eq]
  generalize (lg_sl ([.ref h, .int n]) ++ List.replicate (2 - (lg_sl ([.ref h, .int n])).length) Slot.unset).toArray = ls at hl ⊢
  have hl : lv_has ls 2 [(0, .ref h), (1, .int n)] := hl
  obtain ⟨H, hH0⟩ : ∃ H, H = s.heap := ⟨_, rfl⟩
  have hS : va_S A s.heap H [] := by rw [hH0]; exact va_S.rf
  have hP : va_P D vwCl [(h, oX11 th aw ai ab ac hi re aP ta po en be de fa a5 sp av an ak ne aW aC ag aT aN aF), (aw, kcI cI 2179 fw)] H := by rw [hH0]; exact hP
  refine kHeap hH0 ?_
  clear hH0
  refine lv_aload_n hx hb dX11_draw_0 rfl (lv_at hl 0 rfl) ?_
  refine va_get (D := D) (ci := 10) (v := .ref aw) (C := RX11) (T := TX11) (N := 26) hx hb hts iG_X11 hown hK hP 0 rfl rfl 1 (by decide) (hts _ w5_3) (fun _ h9 => h9) rfl dX11_draw_1 ?_
  refine lv_bipush (v := 9) hx hb dX11_draw_4 (by decide) ?_
  refine lv_ldc (v := 1103515245) hx hb hown (hts _ w34_8) dX11_draw_6 ?_
  refine lv_aload_n hx hb dX11_draw_8 rfl (lv_at hl 0 rfl) ?_
  refine va_get (D := D) (ci := 10) (v := .ref aw) (C := RX11) (T := TX11) (N := 26) hx hb hts iG_X11 hown hK hP 0 rfl rfl 1 (by decide) (hts _ w5_3) (fun _ h9 => h9) rfl dX11_draw_9 ?_
  refine lv_bipush (v := 9) hx hb dX11_draw_12 (by decide) ?_
  refine va_iald hx hb hK hP 1 0 rfl rfl (rg_in (rg_lit (n := 9) (by decide)) (by decide)) dX11_draw_14 ?_
  refine lv_topi (fun x1 ex1 => ?_)
  refine lv_imul hx hb dX11_draw_15 ?_
  refine lv_topi (fun x2 ex2 => ?_)
  refine lv_sipush (v := 12345) hx hb dX11_draw_16 (by decide) ?_
  refine lv_iadd hx hb dX11_draw_19 ?_
  refine lv_topi (fun x3 ex3 => ?_)
  refine va_iast hx hb hK hP hD hS 1 0 rfl rfl (rg_in (rg_lit (n := 9) (by decide)) (by decide)) dX11_draw_20 (fun H locs hP hD hS => ?_)
  have hP : va_P D vwCl [(h, oX11 th aw ai ab ac hi re aP ta po en be de fa a5 sp av an ak ne aW aC ag aT aN aF), (aw, kcI cI 2179 (upd fw (9 : Int32).toNatClampNeg x3))] H := hP
  have hD : va_D A [(h, oX11 th aw ai ab ac hi re aP ta po en be de fa a5 sp av an ak ne aW aC ag aT aN aF), (aw, kcI cI 2179 (upd fw (9 : Int32).toNatClampNeg x3))] := hD
  have k5 : wW (upd fw (9 : Int32).toNatClampNeg x3) := wW_lo H_fw_W (rg_lit (n := 9) (by decide)) (by decide)
  have k6 : wB (upd fw (9 : Int32).toNatClampNeg x3) := wB_lo H_fw_B H_fw_W (rg_lit (n := 9) (by decide)) (by decide)
  have k7 : wL (upd fw (9 : Int32).toNatClampNeg x3) := wL_out H_fw_L (rg_lit (n := 9) (by decide)) (by decide)
  generalize hg4 : (upd fw (9 : Int32).toNatClampNeg x3) = g4 at hP hD k5 k6 k7
  refine lv_aload_n hx hb dX11_draw_21 rfl (lv_at hl 0 rfl) ?_
  refine va_get (D := D) (ci := 10) (v := .ref aw) (C := RX11) (T := TX11) (N := 26) hx hb hts iG_X11 hown hK hP 0 rfl rfl 1 (by decide) (hts _ w5_3) (fun _ h9 => h9) rfl dX11_draw_22 ?_
  refine lv_bipush (v := 9) hx hb dX11_draw_25 (by decide) ?_
  refine va_iald hx hb hK hP 1 0 rfl rfl (rg_in (rg_lit (n := 9) (by decide)) (by decide)) dX11_draw_27 ?_
  refine lv_topi (fun x8 ex8 => ?_)
  refine lv_bipush (v := 16) hx hb dX11_draw_28 (by decide) ?_
  refine lv_ishr hx hb dX11_draw_30 ?_
  refine lv_topi (fun x9 ex9 => ?_)
  refine lv_sipush (v := 32767) hx hb dX11_draw_31 (by decide) ?_
  refine lv_iand hx hb dX11_draw_34 ?_
  refine lv_topi (fun x10 ex10 => ?_)
  have k11 : Rg x10 0 32767 := rg_andr ex10 (rg_lit (n := 32767) (by decide)) (by decide)
  refine lv_iload_n hx hb dX11_draw_35 rfl (lv_at hl 1 rfl) ?_
  refine lv_irem hx hb dX11_draw_36 (rg_ne H_n (by decide)) ?_
  refine lv_topi (fun x12 ex12 => ?_)
  have k13 : Rg x12 0 99 := rg_rem ex12 k11 H_n (by decide)
  have hP9 := hP.sub (ws' := [(h, oX11 th aw ai ab ac hi re aP ta po en be de fa a5 sp av an ak ne aW aC ag aT aN aF), (aw, kcI cI 2179 g4)]) [0, 1] rfl
  have hD9 := hD.sub (ws' := [(h, oX11 th aw ai ab ac hi re aP ta po en be de fa a5 sp av an ak ne aW aC ag aT aN aF), (aw, kcI cI 2179 g4)]) [0, 1] (by decide) rfl
  exact W.iret (v := x12) hx hb hr (fun t ht hW => ⟨⟨x12, (g4), rfl, ⟨k6, k7, k5, k13, (rm_lt ex12 k11 H_n (by decide)), (kLet_eq (ke_ld ex1) (kLet_eq (ke_wmul ex2) (kLet_eq (ke_wadd ex3) (kLet_eq (ke_st hg4) (kLet_eq (ke_ld ex8) (kLet_eq (ke_shr ex9) (kLet_eq (ke_and ex10) (kLet_eq (ke_rem ex12) rfl))))))))⟩, by rw [ht]; exact hP9, va_K.moved hW.alike hK, hD9⟩, hS.F ht⟩) hS.2.2 dX11_draw_37

def kwX11_lot : List Cond := .code yX11_lot cX11_lot 6 (some .int) :: kG
theorem hdX11_lot : yX11_lot.cls ≠ "java/lang/invoke/MethodHandle" ∧ yX11_lot.cls ≠ "java/lang/invoke/VarHandle" ∧ (parseMethodDescriptor yX11_lot.desc).map (fun d => d.parameters.length) = some 0 := by decide +kernel
theorem gX11_lot_J6_bitCount_0f7a4 : GoodIn kG (va_wsS RX11 325 yJ6_bitCount_0f7a4 kwJ6_bitCount_0f7a4) := gK w40_16 (gK w39_12 (gK w39_13 (gK w39_14 gGG)))
theorem gX11_lot_X11_draw : GoodIn kG (wsV RX11 301 RX11 yX11_draw kwX11_draw) := gK w34_4 (gK w34_5 (gK w34_6 (gK w0_5 (gK w34_7 gGG))))
theorem gX11_lot_X11_givable : GoodIn kG (wsV RX11 319 RX11 yX11_givable kwX11_givable) := gK w40_12 (gK w40_13 (gK w40_14 (gK w0_5 (gK w40_15 gGG))))
theorem gX11_lot_X11_gives : GoodIn kG (wsV RX11 307 RX11 yX11_gives kwX11_gives) := gK w35_9 (gK w35_10 (gK w35_11 (gK w0_5 (gK w35_12 gGG))))
theorem gX11_lot_X11_has : GoodIn kG (va_wsS RX11 310 yX11_has kwX11_has) := gK w37_11 (gK w37_12 (gK w0_5 (gK w37_13 gGG)))
theorem gX11_lot_X11_men : GoodIn kG (wsV RX11 71 RX11 yX11_men kwX11_men) := gK w19_17 (gK w19_18 (gK w19_19 (gK w0_5 (gK w19_20 gGG))))
theorem gX11_lot_X11_ofMan : GoodIn kG (wsV RX11 153 RX11 yX11_ofMan kwX11_ofMan) := gK w21_5 (gK w21_6 (gK w21_7 (gK w0_5 (gK w21_8 gGG))))
theorem gX11_lot_X11_remembers : GoodIn kG (wsV RX11 298 RX11 yX11_remembers kwX11_remembers) := gK w34_0 (gK w34_1 (gK w34_2 (gK w0_5 (gK w34_3 gGG))))
theorem dX11_lot_0 : decode cX11_lot 0 = .ok (.aload_n 0, 1) := by decide +kernel
theorem dX11_lot_1 : decode cX11_lot 1 = .ok (.iconst 0, 1) := by decide +kernel
theorem dX11_lot_2 : decode cX11_lot 2 = .ok (.putfield 3, 3) := by decide +kernel
theorem dX11_lot_5 : decode cX11_lot 5 = .ok (.aload_n 0, 1) := by decide +kernel
theorem dX11_lot_6 : decode cX11_lot 6 = .ok (.invokevirtual 298, 3) := by decide +kernel
theorem dX11_lot_9 : decode cX11_lot 9 = .ok (.iconst 0, 1) := by decide +kernel
theorem dX11_lot_10 : decode cX11_lot 10 = .ok (.istore_n 1, 1) := by decide +kernel
theorem dX11_lot_11 : decode cX11_lot 11 = .ok (.iconst 0, 1) := by decide +kernel
theorem dX11_lot_12 : decode cX11_lot 12 = .ok (.istore_n 2, 1) := by decide +kernel
theorem dX11_lot_13 : decode cX11_lot 13 = .ok (.iload_n 2, 1) := by decide +kernel
theorem dX11_lot_14 : decode cX11_lot 14 = .ok (.aload_n 0, 1) := by decide +kernel
theorem dX11_lot_15 : decode cX11_lot 15 = .ok (.invokevirtual 71, 3) := by decide +kernel
theorem dX11_lot_18 : decode cX11_lot 18 = .ok (.if_icmp .ge 97, 3) := by decide +kernel
theorem dX11_lot_21 : decode cX11_lot 21 = .ok (.aload_n 0, 1) := by decide +kernel
theorem dX11_lot_22 : decode cX11_lot 22 = .ok (.iload_n 2, 1) := by decide +kernel
theorem dX11_lot_23 : decode cX11_lot 23 = .ok (.iconst 4, 1) := by decide +kernel
theorem dX11_lot_24 : decode cX11_lot 24 = .ok (.invokevirtual 153, 3) := by decide +kernel
theorem dX11_lot_27 : decode cX11_lot 27 = .ok (.ifCond .lt 7, 3) := by decide +kernel
theorem dX11_lot_30 : decode cX11_lot 30 = .ok (.iconst 0, 1) := by decide +kernel
theorem dX11_lot_31 : decode cX11_lot 31 = .ok (.goto 8, 3) := by decide +kernel
theorem dX11_lot_34 : decode cX11_lot 34 = .ok (.aload_n 0, 1) := by decide +kernel
theorem dX11_lot_35 : decode cX11_lot 35 = .ok (.iload_n 2, 1) := by decide +kernel
theorem dX11_lot_36 : decode cX11_lot 36 = .ok (.invokevirtual 319, 3) := by decide +kernel
theorem dX11_lot_39 : decode cX11_lot 39 = .ok (.istore_n 3, 1) := by decide +kernel
theorem dX11_lot_40 : decode cX11_lot 40 = .ok (.iload_n 3, 1) := by decide +kernel
theorem dX11_lot_41 : decode cX11_lot 41 = .ok (.ifCond .ne 6, 3) := by decide +kernel
theorem dX11_lot_44 : decode cX11_lot 44 = .ok (.goto 65, 3) := by decide +kernel
theorem dX11_lot_47 : decode cX11_lot 47 = .ok (.aload_n 0, 1) := by decide +kernel
theorem dX11_lot_48 : decode cX11_lot 48 = .ok (.iload_n 3, 1) := by decide +kernel
theorem dX11_lot_49 : decode cX11_lot 49 = .ok (.invokestatic 325, 3) := by decide +kernel
theorem dX11_lot_52 : decode cX11_lot 52 = .ok (.invokevirtual 301, 3) := by decide +kernel
theorem dX11_lot_55 : decode cX11_lot 55 = .ok (.istore 4, 2) := by decide +kernel
theorem dX11_lot_57 : decode cX11_lot 57 = .ok (.iconst 0, 1) := by decide +kernel
theorem dX11_lot_58 : decode cX11_lot 58 = .ok (.istore 5, 2) := by decide +kernel
theorem dX11_lot_60 : decode cX11_lot 60 = .ok (.iload_n 3, 1) := by decide +kernel
theorem dX11_lot_61 : decode cX11_lot 61 = .ok (.iload 5, 2) := by decide +kernel
theorem dX11_lot_63 : decode cX11_lot 63 = .ok (.invokestatic 310, 3) := by decide +kernel
theorem dX11_lot_66 : decode cX11_lot 66 = .ok (.ifCond .eq 8, 3) := by decide +kernel
theorem dX11_lot_69 : decode cX11_lot 69 = .ok (.iload 4, 2) := by decide +kernel
theorem dX11_lot_71 : decode cX11_lot 71 = .ok (.ifCond .le 28, 3) := by decide +kernel
theorem dX11_lot_74 : decode cX11_lot 74 = .ok (.iload 4, 2) := by decide +kernel
theorem dX11_lot_76 : decode cX11_lot 76 = .ok (.iload_n 3, 1) := by decide +kernel
theorem dX11_lot_77 : decode cX11_lot 77 = .ok (.iload 5, 2) := by decide +kernel
theorem dX11_lot_79 : decode cX11_lot 79 = .ok (.invokestatic 310, 3) := by decide +kernel
theorem dX11_lot_82 : decode cX11_lot 82 = .ok (.ifCond .eq 7, 3) := by decide +kernel
theorem dX11_lot_85 : decode cX11_lot 85 = .ok (.iconst 1, 1) := by decide +kernel
theorem dX11_lot_86 : decode cX11_lot 86 = .ok (.goto 4, 3) := by decide +kernel
theorem dX11_lot_89 : decode cX11_lot 89 = .ok (.iconst 0, 1) := by decide +kernel
theorem dX11_lot_90 : decode cX11_lot 90 = .ok (.isub, 1) := by decide +kernel
theorem dX11_lot_91 : decode cX11_lot 91 = .ok (.istore 4, 2) := by decide +kernel
theorem dX11_lot_93 : decode cX11_lot 93 = .ok (.iinc 5 1, 3) := by decide +kernel
theorem dX11_lot_96 : decode cX11_lot 96 = .ok (.goto (-36), 3) := by decide +kernel
theorem dX11_lot_99 : decode cX11_lot 99 = .ok (.aload_n 0, 1) := by decide +kernel
theorem dX11_lot_100 : decode cX11_lot 100 = .ok (.iload_n 2, 1) := by decide +kernel
theorem dX11_lot_101 : decode cX11_lot 101 = .ok (.iload 5, 2) := by decide +kernel
theorem dX11_lot_103 : decode cX11_lot 103 = .ok (.invokevirtual 307, 3) := by decide +kernel
theorem dX11_lot_106 : decode cX11_lot 106 = .ok (.iinc 1 1, 3) := by decide +kernel
theorem dX11_lot_109 : decode cX11_lot 109 = .ok (.iinc 2 1, 3) := by decide +kernel
theorem dX11_lot_112 : decode cX11_lot 112 = .ok (.goto (-99), 3) := by decide +kernel
theorem dX11_lot_115 : decode cX11_lot 115 = .ok (.iload_n 1, 1) := by decide +kernel
theorem dX11_lot_116 : decode cX11_lot 116 = .ok (.ireturn, 1) := by decide +kernel
set_option maxHeartbeats 4000000 in
set_option maxRecDepth 100000 in
/-- reference: lot -/
theorem r_lot (l : Launch) (D : va_G) (cI cJ cB cC : ClassId) (h : Nat) (th : Int32) (aw : Nat) (ai : Nat) (ab : Nat) (ac : Nat) (hi : Int32) (re : Int32) (aP : Nat) (ta : Int32) (po : Int32) (en : Int32) (be : Int32) (de : Int32) (fa : Int32) (a5 : Nat) (sp : Int32) (av : Nat) (an : Nat) (ak : Nat) (ne : Int32) (aW : Nat) (aC : Nat) (ag : Nat) (aT : Nat) (aN : Nat) (aF : Nat) (fw : Nat → Int32) (fv : Nat → Int32) (fc : Nat → Int32) (sz : Nat) (H_re : Rg re 0 12) (H_fw_W : wW fw) (H_fw_B : wB fw) (H_fw_L : wL fw) (H_fc_C : wC fc) : Met l yX11_lot kwX11_lot ({ frames := 7, cells := 0, slots := 0, locals := 167 } : Room) (kPre D (kT cI cJ cB cC) sz [(h, oX11 th aw ai ab ac hi re aP ta po en be de fa a5 sp av an ak ne aW aC ag aT aN aF), (aw, kcI cI 2179 fw), (av, kcI cI 400 fv), (ac, kcI cI 6060 fc)] [.ref h]) (va_Qi (fun (r : Int32) (uu : Int32 × (Nat → Int32) × (Nat → Int32) × (Nat → Int32)) => match uu with | (n0_, f1_, f2_, f3_) => Rg n0_ 1 12 ∧ wB f1_ ∧ wL f1_ ∧ wW f1_ ∧ wC f3_ ∧ F_r_lot (re : Int32).toInt (gT fw) (gT fv) (gT fc) = ((r : Int32).toInt, (n0_ : Int32).toInt, (gT f1_), (gT f2_), (gT f3_))) (fun (uu : Int32 × (Nat → Int32) × (Nat → Int32) × (Nat → Int32)) (t : State) => match uu with | (n0_, f1_, f2_, f3_) => kB D (kT cI cJ cB cC) (va_A [(h, oX11 th aw ai ab ac hi re aP ta po en be de fa a5 sp av an ak ne aW aC ag aT aN aF), (aw, kcI cI 2179 fw), (av, kcI cI 400 fv), (ac, kcI cI 6060 fc)] sz) [(h, oX11 0 aw ai ab ac hi n0_ aP ta po en be de fa a5 sp av an ak ne aW aC ag aT aN aF), (aw, kcI cI 2179 f1_), (av, kcI cI 400 f2_), (ac, kcI cI 6060 f3_)] t) (va_A [(h, oX11 th aw ai ab ac hi re aP ta po en be de fa a5 sp av an ak ne aW aC ag aT aN aF), (aw, kcI cI 2179 fw), (av, kcI cI 400 fv), (ac, kcI cI 6060 fc)] sz)) 0 0 (va_A [(h, oX11 th aw ai ab ac hi re aP ta po en be de fa a5 sp av an ak ne aW aC ag aT aN aF), (aw, kcI cI 2179 fw), (av, kcI cI 400 fv), (ac, kcI cI 6060 fc)] sz) := by
  refine Met.ofW (cc := cX11_lot) (maxL := 6) (ret := (some .int)) (by decide) rfl ?_
  intro p e s m args below meth c s₁ B hml hv
  obtain ⟨rfl, hsz, hN, hE, hP, hK, hD0⟩ := hv
  have hx := B.exec
  have hb := B.bytes
  have hr := B.returns
  have hts := fun (w : Cond) (h : w ∈ kG) => atoms_spec (ws := kwX11_lot) B.pre w (List.mem_cons_of_mem _ h)
  have hown : s.vm.findClass RX11 = some m.cls := findClass_of_methodNamed B.named
  subst hsz
  have hD := hD0.self (sz := s.heap.size)
  generalize hAe : va_A [(h, oX11 th aw ai ab ac hi re aP ta po en be de fa a5 sp av an ak ne aW aC ag aT aN aF), (aw, kcI cI 2179 fw), (av, kcI cI 400 fv), (ac, kcI cI 6060 fc)] s.heap.size = A at hD hE ⊢
  have hA : ∀ q : Nat, s.heap.size ≤ q → A q := fun q h => by rw [← hAe]; exact Or.inr h
  have hl := lv_entry ([.ref h]) (n := 6) (Nat.le_of_ble_eq_true rfl)
  rw [lg_entry_eq]
  generalize (lg_sl ([.ref h]) ++ List.replicate (6 - (lg_sl ([.ref h])).length) Slot.unset).toArray = ls at hl ⊢
  have hl : lv_has ls 6 [(0, .ref h)] := hl
  obtain ⟨H, hH0⟩ : ∃ H, H = s.heap := ⟨_, rfl⟩
  have hS : va_S A s.heap H [] := by rw [hH0]; exact va_S.rf
  have hP : va_P D vwCl [(h, oX11 th aw ai ab ac hi re aP ta po en be de fa a5 sp av an ak ne aW aC ag aT aN aF), (aw, kcI cI 2179 fw), (av, kcI cI 400 fv), (ac, kcI cI 6060 fc)] H := by rw [hH0]; exact hP
  refine kHeap hH0 ?_
  clear hH0
  refine lv_aload_n hx hb dX11_lot_0 rfl (lv_at hl 0 rfl) ?_
  refine lv_iconst (v := 0) hx hb dX11_lot_1 (by decide) ?_
  refine va_put (D := D) (ci := 10) (v := .int 0) (ty := .int) (C := RX11) (T := TX11) (N := 26) hx hb hts iG_X11 tyX11 tyX11_ok nmX11 hown hK hP hD hS 0 rfl rfl 0 (by decide) (hts _ w6_8) (fun _ h9 => h9) rfl (by decide +kernel) rfl rfl (Nat.le_of_ble_eq_true rfl) dX11_lot_2 (fun H locs hP hD hS => ?_)
  have hP : va_P D vwCl [(h, oX11 0 aw ai ab ac hi re aP ta po en be de fa a5 sp av an ak ne aW aC ag aT aN aF), (aw, kcI cI 2179 fw), (av, kcI cI 400 fv), (ac, kcI cI 6060 fc)] H := hP
  have hD : va_D A [(h, oX11 0 aw ai ab ac hi re aP ta po en be de fa a5 sp av an ak ne aW aC ag aT aN aF), (aw, kcI cI 2179 fw), (av, kcI cI 400 fv), (ac, kcI cI 6060 fc)] := hD
  refine lv_aload_n hx hb dX11_lot_5 rfl (lv_at hl 0 rfl) ?_
  refine kcallv (wc := [(h, oX11 0 aw ai ab ac hi re aP ta po en be de fa a5 sp av an ak ne aW aC ag aT aN aF), (aw, kcI cI 2179 fw), (ac, kcI cI 6060 fc)]) (wr := [(av, kcI cI 400 fv)]) hP hD hS hA [0, 1, 3] [2] rfl rfl (by decide) (by decide) (by decide) (fun hPc hDc hFc => va_runV (As := []) (rest := []) ⟨hx, hb, hml, hown, hts⟩ (r_remembers l D cI cJ cB cC h 0 aw ai ab ac hi re aP ta po en be de fa a5 sp av an ak ne aW aC ag aT aN aF fw fc H.size H_re H_fw_W H_fw_B H_fw_L H_fc_C) (cwV 0 hts gX11_lot_X11_remembers rfl rfl rfl ⟨rfl, hdX11_remembers⟩ ⟨Nat.le_of_ble_eq_true rfl, Nat.le_of_ble_eq_true rfl⟩) ⟨kBlind, va_recv hK hPc (ci := 10) (q0 := 0) rfl rfl, fun U hU hW => ⟨rfl, by rw [hU], hN.warm hW, hE.pass hS hFc hW hU, by rw [hU]; exact hPc, va_K.moved hW.alike hK, hDc⟩⟩ rfl rfl hl.1 rfl (lv_room (Nat.le_of_ble_eq_true rfl)) dX11_lot_6 ⟨Nat.le_of_ble_eq_true rfl, Nat.le_of_ble_eq_true rfl⟩) (fun u H locs hw hP hD hS => ?_)
  obtain ⟨x1, g2⟩ := u
  have hP : va_P D vwCl [(av, kcI cI 400 fv), (h, oX11 0 aw ai ab ac hi x1 aP ta po en be de fa a5 sp av an ak ne aW aC ag aT aN aF), (aw, kcI cI 2179 fw), (ac, kcI cI 6060 g2)] H := hP
  have hD : va_D A [(av, kcI cI 400 fv), (h, oX11 0 aw ai ab ac hi x1 aP ta po en be de fa a5 sp av an ak ne aW aC ag aT aN aF), (aw, kcI cI 2179 fw), (ac, kcI cI 6060 g2)] := hD
  obtain ⟨k3, k4, k5⟩ := hw
  refine lv_iconst (v := 0) hx hb dX11_lot_9 (by decide) ?_
  refine lv_istore_n (lv' := [(1, .int 0), (0, .ref h)]) hx hb dX11_lot_10 rfl hl (by decide) rfl (fun ls hl => ?_)
  refine lv_iconst (v := 0) hx hb dX11_lot_11 (by decide) ?_
  refine lv_istore_n (lv' := [(2, .int 0), (1, .int 0), (0, .ref h)]) hx hb dX11_lot_12 rfl hl (by decide) rfl (fun ls hl => ?_)
  refine k_loop (hd := 13) (fun (u : Int32 × Int32 × (Nat → Int32) × (Nat → Int32)) => match u with | (y9108, y9109, g9110, g9111) => (10 - (y9108).toInt).toNat) (fun (u : Int32 × Int32 × (Nat → Int32) × (Nat → Int32)) (H : Heap) (locs : List Loc) (ls : Array Slot) => match u with | (y9108, y9109, g9110, g9111) => (F_r_lot re.toInt (gT fw) (gT fv) (gT fc) = F_r_lot_l1 x1.toInt (gT g2) (y9108.toInt, y9109.toInt, (gT g9110), (gT g9111))) ∧ Rg y9108 0 10 ∧ wB g9111 ∧ wL g9111 ∧ wW g9111 ∧ va_P D vwCl [(av, kcI cI 400 g9110), (h, oX11 0 aw ai ab ac hi x1 aP ta po en be de fa a5 sp av an ak ne aW aC ag aT aN aF), (aw, kcI cI 2179 g9111), (ac, kcI cI 6060 g2)] H ∧ va_D A [(av, kcI cI 400 g9110), (h, oX11 0 aw ai ab ac hi x1 aP ta po en be de fa a5 sp av an ak ne aW aC ag aT aN aF), (aw, kcI cI 2179 g9111), (ac, kcI cI 6060 g2)] ∧ va_S A s.heap H locs ∧ lv_has ls 6 [(2, .int y9108), (1, .int y9109), (0, .ref h)]) ((0 : Int32), (0 : Int32), fv, fw) ⟨(kC_eq k5 rfl), (rg_w (rg_lit (n := 0) (by decide)) (by decide)), H_fw_B, H_fw_L, H_fw_W, hP.sub (ws' := [(av, kcI cI 400 fv), (h, oX11 0 aw ai ab ac hi x1 aP ta po en be de fa a5 sp av an ak ne aW aC ag aT aN aF), (aw, kcI cI 2179 fw), (ac, kcI cI 6060 g2)]) [0, 1, 2, 3] rfl, hD.sub (ws' := [(av, kcI cI 400 fv), (h, oX11 0 aw ai ab ac hi x1 aP ta po en be de fa a5 sp av an ak ne aW aC ag aT aN aF), (aw, kcI cI 2179 fw), (ac, kcI cI 6060 g2)]) [0, 1, 2, 3] (by decide) rfl, hS, lv_sub (l' := [(2, .int 0), (1, .int 0), (0, .ref h)]) hl [0, 1, 2] rfl⟩ (fun u H locs ls hI ih9112 => ?_)
  clear hP hD hS hl
  obtain ⟨y9108, y9109, g9110, g9111⟩ := u
  obtain ⟨hF1, hy9108, hg9111_0, hg9111_1, hg9111_2, hP, hD, hS, hl⟩ := hI
  have hP : va_P D vwCl [(av, kcI cI 400 g9110), (h, oX11 0 aw ai ab ac hi x1 aP ta po en be de fa a5 sp av an ak ne aW aC ag aT aN aF), (aw, kcI cI 2179 g9111), (ac, kcI cI 6060 g2)] H := hP
  have hD : va_D A [(av, kcI cI 400 g9110), (h, oX11 0 aw ai ab ac hi x1 aP ta po en be de fa a5 sp av an ak ne aW aC ag aT aN aF), (aw, kcI cI 2179 g9111), (ac, kcI cI 6060 g2)] := hD
  have hl : lv_has ls 6 [(2, .int y9108), (1, .int y9109), (0, .ref h)] := hl
  refine lv_iload_n hx hb dX11_lot_13 rfl (lv_at hl 0 rfl) ?_
  refine lv_aload_n hx hb dX11_lot_14 rfl (lv_at hl 2 rfl) ?_
  refine kpurei (wc := [(h, oX11 0 aw ai ab ac hi x1 aP ta po en be de fa a5 sp av an ak ne aW aC ag aT aN aF), (aw, kcI cI 2179 g9111)]) hP hD hS hA [1, 2] rfl (by decide) (fun hPc hDc hFc => va_runV (As := []) (rest := [.int y9108]) ⟨hx, hb, hml, hown, hts⟩ (r_men l D cI cJ cB cC h 0 aw ai ab ac hi x1 aP ta po en be de fa a5 sp av an ak ne aW aC ag aT aN aF g9111 H.size hg9111_2) (cwV 0 hts gX11_lot_X11_men rfl rfl rfl ⟨rfl, hdX11_men⟩ ⟨Nat.le_of_ble_eq_true rfl, Nat.le_of_ble_eq_true rfl⟩) ⟨kBlind, va_recv hK hPc (ci := 10) (q0 := 0) rfl rfl, fun U hU hW => ⟨rfl, by rw [hU], hN.warm hW, hE.pass hS hFc hW hU, by rw [hU]; exact hPc, va_K.moved hW.alike hK, hDc⟩⟩ rfl rfl hl.1 rfl (lv_room (Nat.le_of_ble_eq_true rfl)) dX11_lot_15 ⟨Nat.le_of_ble_eq_true rfl, Nat.le_of_ble_eq_true rfl⟩) (fun r9113 u H locs hw hP hS => ?_)
  obtain ⟨k9114, k9115, k9116⟩ := hw
  refine lv_icmp_ge (tgt := 115) hx hb dX11_lot_18 (by decide) (fun c9117 => ?_) (fun c9117 => ?_)
  · skip
    refine lv_iload_n hx hb dX11_lot_115 rfl (lv_at hl 1 rfl) ?_
    have hP9 := hP.sub (ws' := [(h, oX11 0 aw ai ab ac hi x1 aP ta po en be de fa a5 sp av an ak ne aW aC ag aT aN aF), (aw, kcI cI 2179 g9111), (av, kcI cI 400 g9110), (ac, kcI cI 6060 g2)]) [1, 2, 0, 3] rfl
    have hD9 := hD.sub (ws' := [(h, oX11 0 aw ai ab ac hi x1 aP ta po en be de fa a5 sp av an ak ne aW aC ag aT aN aF), (aw, kcI cI 2179 g9111), (av, kcI cI 400 g9110), (ac, kcI cI 6060 g2)]) [1, 2, 0, 3] (by decide) rfl
    exact W.iret (v := y9109) hx hb hr (fun t ht hW => ⟨⟨y9109, (x1, g9111, g9110, g2), rfl, ⟨k3, hg9111_0, hg9111_1, hg9111_2, k4, (hF1.trans (kIter_out (kC_eq rfl (kC_eq rfl (kC_eq rfl (kLet_eq (k9116).symm (kif_t (leI c9117) rfl)))))))⟩, by rw [ht]; exact hP9, va_K.moved hW.alike hK, hD9⟩, hS.F ht⟩) hS.2.2 dX11_lot_116
  · skip
    have k9118 : Rg y9108 0 9 := rg_l1 (nleI c9117) hy9108 k9115 (by decide)
    have k9119 : Rg r9113 1 10 := rg_l2 (nleI c9117) hy9108 k9115 (by decide)
    refine lv_aload_n hx hb dX11_lot_21 rfl (lv_at hl 2 rfl) ?_
    refine lv_iload_n hx hb dX11_lot_22 rfl (lv_at hl 0 rfl) ?_
    refine lv_iconst (v := 4) hx hb dX11_lot_23 (by decide) ?_
    refine kpurei (wc := [(h, oX11 0 aw ai ab ac hi x1 aP ta po en be de fa a5 sp av an ak ne aW aC ag aT aN aF), (aw, kcI cI 2179 g9111)]) hP hD hS hA [1, 2] rfl (by decide) (fun hPc hDc hFc => va_runV (As := [.int y9108, .int 4]) (rest := []) ⟨hx, hb, hml, hown, hts⟩ (r_ofMan4 l D cI cJ cB cC h 0 aw ai ab ac hi x1 aP ta po en be de fa a5 sp av an ak ne aW aC ag aT aN aF g9111 y9108 H.size k9118 hg9111_2) (cwV 2 hts gX11_lot_X11_ofMan rfl rfl rfl ⟨rfl, hdX11_ofMan⟩ ⟨Nat.le_of_ble_eq_true rfl, Nat.le_of_ble_eq_true rfl⟩) ⟨kBlind, va_recv hK hPc (ci := 10) (q0 := 0) rfl rfl, fun U hU hW => ⟨rfl, by rw [hU], hN.warm hW, hE.pass hS hFc hW hU, by rw [hU]; exact hPc, va_K.moved hW.alike hK, hDc⟩⟩ rfl rfl hl.1 rfl (lv_room (Nat.le_of_ble_eq_true rfl)) dX11_lot_24 ⟨Nat.le_of_ble_eq_true rfl, Nat.le_of_ble_eq_true rfl⟩) (fun r9120 u H locs hw hP hS => ?_)
    obtain ⟨k9121, k9122, k9123⟩ := hw
    refine k_join (hd := 39) (cells2 := 0) (slots2 := 0) (fun (u : Int32 × (Nat → Int32)) => match u with | (z9134, g9135) => [.int z9134]) (fun (u : Int32 × (Nat → Int32)) (H : Heap) (locs : List Loc) (ls : Array Slot) => match u with | (z9134, g9135) => (F_r_lot_l1_s x1.toInt (gT g2) (y9108.toInt, y9109.toInt, (gT g9110), (gT g9111)) = F_r_lot_j2 y9108.toInt y9109.toInt (gT g9111) z9134.toInt (gT g9135)) ∧ Rg z9134 0 4095 ∧ va_P D vwCl [(av, kcI cI 400 g9135), (h, oX11 0 aw ai ab ac hi x1 aP ta po en be de fa a5 sp av an ak ne aW aC ag aT aN aF), (aw, kcI cI 2179 g9111), (ac, kcI cI 6060 g2)] H ∧ va_D A [(av, kcI cI 400 g9135), (h, oX11 0 aw ai ab ac hi x1 aP ta po en be de fa a5 sp av an ak ne aW aC ag aT aN aF), (aw, kcI cI 2179 g9111), (ac, kcI cI 6060 g2)] ∧ va_S A s.heap H locs ∧ lv_has ls 6 [(2, .int y9108), (1, .int y9109), (0, .ref h)]) (fun u H locs ls hI => ?_) (fun hJ39 => ?_)
    · skip
      clear hP hD hS hl
      obtain ⟨z9134, g9135⟩ := u
      obtain ⟨hF2, hz9134, hP, hD, hS, hl⟩ := hI
      have hP : va_P D vwCl [(av, kcI cI 400 g9135), (h, oX11 0 aw ai ab ac hi x1 aP ta po en be de fa a5 sp av an ak ne aW aC ag aT aN aF), (aw, kcI cI 2179 g9111), (ac, kcI cI 6060 g2)] H := hP
      have hD : va_D A [(av, kcI cI 400 g9135), (h, oX11 0 aw ai ab ac hi x1 aP ta po en be de fa a5 sp av an ak ne aW aC ag aT aN aF), (aw, kcI cI 2179 g9111), (ac, kcI cI 6060 g2)] := hD
      have hl : lv_has ls 6 [(2, .int y9108), (1, .int y9109), (0, .ref h)] := hl
      show W _ _ _ _ _ _ _ _ _ _ _ _ _ _ _ (F0 m 39 ls [.int z9134])
      refine lv_istore_n (lv' := [(3, .int z9134), (2, .int y9108), (1, .int y9109), (0, .ref h)]) hx hb dX11_lot_39 rfl hl (by decide) rfl (fun ls hl => ?_)
      refine lv_iload_n hx hb dX11_lot_40 rfl (lv_at hl 0 rfl) ?_
      refine k_join (hd := 109) (cells2 := 0) (slots2 := 0) (fun (u : Int32 × (Nat → Int32)) => match u with | (y9678, g9679) => []) (fun (u : Int32 × (Nat → Int32)) (H : Heap) (locs : List Loc) (ls : Array Slot) => match u with | (y9678, g9679) => (F_r_lot_l1_s x1.toInt (gT g2) (y9108.toInt, y9109.toInt, (gT g9110), (gT g9111)) = F_r_lot_j3 y9108.toInt (gT g9135) y9678.toInt (gT g9679)) ∧ wB g9679 ∧ wL g9679 ∧ wW g9679 ∧ va_P D vwCl [(av, kcI cI 400 g9135), (h, oX11 0 aw ai ab ac hi x1 aP ta po en be de fa a5 sp av an ak ne aW aC ag aT aN aF), (aw, kcI cI 2179 g9679), (ac, kcI cI 6060 g2)] H ∧ va_D A [(av, kcI cI 400 g9135), (h, oX11 0 aw ai ab ac hi x1 aP ta po en be de fa a5 sp av an ak ne aW aC ag aT aN aF), (aw, kcI cI 2179 g9679), (ac, kcI cI 6060 g2)] ∧ va_S A s.heap H locs ∧ lv_has ls 6 [(3, .int z9134), (2, .int y9108), (1, .int y9678), (0, .ref h)]) (fun u H locs ls hI => ?_) (fun hJ109 => ?_)
      · skip
        clear hP hD hS hl
        obtain ⟨y9678, g9679⟩ := u
        obtain ⟨hF3, hg9679_0, hg9679_1, hg9679_2, hP, hD, hS, hl⟩ := hI
        have hP : va_P D vwCl [(av, kcI cI 400 g9135), (h, oX11 0 aw ai ab ac hi x1 aP ta po en be de fa a5 sp av an ak ne aW aC ag aT aN aF), (aw, kcI cI 2179 g9679), (ac, kcI cI 6060 g2)] H := hP
        have hD : va_D A [(av, kcI cI 400 g9135), (h, oX11 0 aw ai ab ac hi x1 aP ta po en be de fa a5 sp av an ak ne aW aC ag aT aN aF), (aw, kcI cI 2179 g9679), (ac, kcI cI 6060 g2)] := hD
        have hl : lv_has ls 6 [(3, .int z9134), (2, .int y9108), (1, .int y9678), (0, .ref h)] := hl
        obtain ⟨x9680, ex9680⟩ : ∃ y : Int32, y = y9108 + 1 := ⟨_, rfl⟩
        refine lv_iinc (v := x9680) (lv' := [(2, .int x9680), (3, .int z9134), (1, .int y9678), (0, .ref h)]) hx hb dX11_lot_109 hl (k := 1) rfl (by rw [ex9680]; rfl) (by decide) rfl (fun ls hl => ?_)
        have k9681 : Rg x9680 1 10 := rg_add ex9680 k9118 (rg_lit (n := 1) (by decide)) (by decide)
        refine lv_goto (tgt := 13) hx hb dX11_lot_112 (by decide) ?_
        exact ih9112 (x9680, y9678, g9135, g9679) _ _ _ (by show (10 - (x9680).toInt).toNat < (10 - (y9108).toInt).toNat; exact mu_up ex9680 k9118 k9681 (by decide)) ⟨(hF1.trans (kIter_go (hF3.trans (kLet_eq (ti_add ex9680 k9118 (rg_lit (n := 1) (by decide)) (by decide) rfl rfl) rfl)))), (rg_w k9681 (by decide)), hg9679_0, hg9679_1, hg9679_2, hP.sub (ws' := [(av, kcI cI 400 g9135), (h, oX11 0 aw ai ab ac hi x1 aP ta po en be de fa a5 sp av an ak ne aW aC ag aT aN aF), (aw, kcI cI 2179 g9679), (ac, kcI cI 6060 g2)]) [0, 1, 2, 3] rfl, hD.sub (ws' := [(av, kcI cI 400 g9135), (h, oX11 0 aw ai ab ac hi x1 aP ta po en be de fa a5 sp av an ak ne aW aC ag aT aN aF), (aw, kcI cI 2179 g9679), (ac, kcI cI 6060 g2)]) [0, 1, 2, 3] (by decide) rfl, hS, lv_sub (l' := [(2, .int x9680), (1, .int y9678), (0, .ref h)]) hl [0, 2, 3] rfl⟩
      refine lv_if_ne (tgt := 47) hx hb dX11_lot_41 (by decide) (fun c9682 => ?_) (fun c9682 => ?_)
      · skip
        have k9683 : Rg z9134 1 4095 := rg_n1 (neI c9682) hz9134 (rg_lit (n := 0) (by decide)) (by decide)
        refine lv_aload_n hx hb dX11_lot_47 rfl (lv_at hl 3 rfl) ?_
        refine lv_iload_n hx hb dX11_lot_48 rfl (lv_at hl 0 rfl) ?_
        refine kpurei (wc := []) hP hD hS hA [] rfl (by decide) (fun hPc hDc hFc => va_runS (As := [.int z9134]) (rest := [.ref h]) ⟨hx, hb, hml, hown, hts⟩ (z_bitCountx l D cI cJ cB cC z9134 H.size) (va_cwS 1 hts gX11_lot_J6_bitCount_0f7a4 rfl rfl rfl hdJ6_bitCount_0f7a4 ⟨Nat.le_of_ble_eq_true rfl, Nat.le_of_ble_eq_true rfl⟩) ⟨kBlind, fun U hU hW => ⟨rfl, by rw [hU], hN.warm hW, hE.pass hS hFc hW hU, by rw [hU]; exact hPc, va_K.moved hW.alike hK, hDc⟩⟩ rfl rfl hl.1 rfl (lv_room (Nat.le_of_ble_eq_true rfl)) dX11_lot_49 ⟨Nat.le_of_ble_eq_true rfl, Nat.le_of_ble_eq_true rfl⟩) (fun r9684 u H locs hw hP hS => ?_)
        obtain ⟨k9685, k9686, k9687⟩ := hw
        have k9688 : Rg r9684 1 12 := (lot_n k9685 (rg_w k9683 (by decide)) c9682)
        refine kcalli (wc := [(h, oX11 0 aw ai ab ac hi x1 aP ta po en be de fa a5 sp av an ak ne aW aC ag aT aN aF), (aw, kcI cI 2179 g9111)]) (wr := [(av, kcI cI 400 g9135), (ac, kcI cI 6060 g2)]) hP hD hS hA [1, 2] [0, 3] rfl rfl (by decide) (by decide) (by decide) (fun hPc hDc hFc => va_runV (As := [.int r9684]) (rest := []) ⟨hx, hb, hml, hown, hts⟩ (r_drawx l D cI cJ cB cC h 0 aw ai ab ac hi x1 aP ta po en be de fa a5 sp av an ak ne aW aC ag aT aN aF g9111 r9684 H.size (rg_w k9688 (by decide)) hg9111_2 hg9111_0 hg9111_1) (cwV 1 hts gX11_lot_X11_draw rfl rfl rfl ⟨rfl, hdX11_draw⟩ ⟨Nat.le_of_ble_eq_true rfl, Nat.le_of_ble_eq_true rfl⟩) ⟨kBlind, va_recv hK hPc (ci := 10) (q0 := 0) rfl rfl, fun U hU hW => ⟨rfl, by rw [hU], hN.warm hW, hE.pass hS hFc hW hU, by rw [hU]; exact hPc, va_K.moved hW.alike hK, hDc⟩⟩ rfl rfl hl.1 rfl (lv_room (Nat.le_of_ble_eq_true rfl)) dX11_lot_52 ⟨Nat.le_of_ble_eq_true rfl, Nat.le_of_ble_eq_true rfl⟩) (fun r9689 u H locs hw hP hD hS => ?_)
        obtain ⟨g9690, rfl⟩ : ∃ z, z = u := ⟨_, rfl⟩
        have hP : va_P D vwCl [(av, kcI cI 400 g9135), (ac, kcI cI 6060 g2), (h, oX11 0 aw ai ab ac hi x1 aP ta po en be de fa a5 sp av an ak ne aW aC ag aT aN aF), (aw, kcI cI 2179 g9690)] H := hP
        have hD : va_D A [(av, kcI cI 400 g9135), (ac, kcI cI 6060 g2), (h, oX11 0 aw ai ab ac hi x1 aP ta po en be de fa a5 sp av an ak ne aW aC ag aT aN aF), (aw, kcI cI 2179 g9690)] := hD
        obtain ⟨k9691, k9692, k9693, k9694, k9695, k9696⟩ := hw
        refine lv_istore (lv' := [(4, .int r9689), (3, .int z9134), (2, .int y9108), (1, .int y9109), (0, .ref h)]) hx hb dX11_lot_55 hl (by decide) rfl (fun ls hl => ?_)
        refine lv_iconst (v := 0) hx hb dX11_lot_57 (by decide) ?_
        refine lv_istore (lv' := [(5, .int 0), (4, .int r9689), (3, .int z9134), (2, .int y9108), (1, .int y9109), (0, .ref h)]) hx hb dX11_lot_58 hl (by decide) rfl (fun ls hl => ?_)
        refine k_loop (hd := 60) (fun (u : Int32 × Int32) => match u with | (y10184, y10185) => (12 - (y10184).toInt).toNat) (fun (u : Int32 × Int32) (H : Heap) (locs : List Loc) (ls : Array Slot) => match u with | (y10184, y10185) => (0 ≤ (y10185 : Int32).toInt) ∧ ((y10185 : Int32).toInt + (popU (cN z9134) (cN y10184) : Int) < (popU (cN z9134) 12 : Int)) ∧ (F_r_lot_l1_s x1.toInt (gT g2) (y9108.toInt, y9109.toInt, (gT g9110), (gT g9111)) = F_r_lot_l4 y9108.toInt y9109.toInt z9134.toInt (gT g9135) (gT g9690) (y10184.toInt, y10185.toInt)) ∧ Rg y10184 0 12 ∧ Rg y10185 0 99 ∧ va_P D vwCl [(av, kcI cI 400 g9135), (ac, kcI cI 6060 g2), (h, oX11 0 aw ai ab ac hi x1 aP ta po en be de fa a5 sp av an ak ne aW aC ag aT aN aF), (aw, kcI cI 2179 g9690)] H ∧ va_D A [(av, kcI cI 400 g9135), (ac, kcI cI 6060 g2), (h, oX11 0 aw ai ab ac hi x1 aP ta po en be de fa a5 sp av an ak ne aW aC ag aT aN aF), (aw, kcI cI 2179 g9690)] ∧ va_S A s.heap H locs ∧ lv_has ls 6 [(5, .int y10184), (4, .int y10185), (3, .int z9134), (2, .int y9108), (1, .int y9109), (0, .ref h)]) ((0 : Int32), r9689) ⟨(by have q1 := k9694; unfold Rg at q1; omega), (lot_0 k9685 (rg_w k9683 (by decide)) k9695), (hF2.trans (kif_f (neI c9682) (kLet_eq (k9687).symm (kC_eq k9696 rfl)))), (rg_w (rg_lit (n := 0) (by decide)) (by decide)), k9694, hP.sub (ws' := [(av, kcI cI 400 g9135), (ac, kcI cI 6060 g2), (h, oX11 0 aw ai ab ac hi x1 aP ta po en be de fa a5 sp av an ak ne aW aC ag aT aN aF), (aw, kcI cI 2179 g9690)]) [0, 1, 2, 3] rfl, hD.sub (ws' := [(av, kcI cI 400 g9135), (ac, kcI cI 6060 g2), (h, oX11 0 aw ai ab ac hi x1 aP ta po en be de fa a5 sp av an ak ne aW aC ag aT aN aF), (aw, kcI cI 2179 g9690)]) [0, 1, 2, 3] (by decide) rfl, hS, lv_sub (l' := [(5, .int 0), (4, .int r9689), (3, .int z9134), (2, .int y9108), (1, .int y9109), (0, .ref h)]) hl [0, 1, 2, 3, 4, 5] rfl⟩ (fun u H locs ls hI ih10186 => ?_)
        clear hP hD hS hl
        obtain ⟨y10184, y10185⟩ := u
        obtain ⟨hX60_0, hX60_1, hF4, hy10184, hy10185, hP, hD, hS, hl⟩ := hI
        have hP : va_P D vwCl [(av, kcI cI 400 g9135), (ac, kcI cI 6060 g2), (h, oX11 0 aw ai ab ac hi x1 aP ta po en be de fa a5 sp av an ak ne aW aC ag aT aN aF), (aw, kcI cI 2179 g9690)] H := hP
        have hD : va_D A [(av, kcI cI 400 g9135), (ac, kcI cI 6060 g2), (h, oX11 0 aw ai ab ac hi x1 aP ta po en be de fa a5 sp av an ak ne aW aC ag aT aN aF), (aw, kcI cI 2179 g9690)] := hD
        have hl : lv_has ls 6 [(5, .int y10184), (4, .int y10185), (3, .int z9134), (2, .int y9108), (1, .int y9109), (0, .ref h)] := hl
        have k10187 : Rg y10184 0 11 := (by have q1 := lot_s hX60_1 hX60_0; have q3 := hy10184; unfold Rg at q3; exact ⟨by omega, by omega⟩)
        refine lv_iload_n hx hb dX11_lot_60 rfl (lv_at hl 2 rfl) ?_
        refine lv_iload hx hb dX11_lot_61 (lv_at hl 0 rfl) ?_
        refine kpurei (wc := []) hP hD hS hA [] rfl (by decide) (fun hPc hDc hFc => va_runS (As := [.int z9134, .int y10184]) (rest := []) ⟨hx, hb, hml, hown, hts⟩ (r_hasx l D cI cJ cB cC z9134 y10184 H.size) (va_cwS 2 hts gX11_lot_X11_has rfl rfl rfl hdX11_has ⟨Nat.le_of_ble_eq_true rfl, Nat.le_of_ble_eq_true rfl⟩) ⟨kBlind, fun U hU hW => ⟨rfl, by rw [hU], hN.warm hW, hE.pass hS hFc hW hU, by rw [hU]; exact hPc, va_K.moved hW.alike hK, hDc⟩⟩ rfl rfl hl.1 rfl (lv_room (Nat.le_of_ble_eq_true rfl)) dX11_lot_63 ⟨Nat.le_of_ble_eq_true rfl, Nat.le_of_ble_eq_true rfl⟩) (fun r10188 u H locs hw hP hS => ?_)
        obtain ⟨k10189, k10190, k10191⟩ := hw
        refine lv_if_eq (tgt := 74) hx hb dX11_lot_66 (by decide) (fun c10204 => ?_) (fun c10204 => ?_)
        · skip
          have k10205 : Rg r10188 0 0 := rg_q1 (eqI c10204) k10190 (rg_lit (n := 0) (by decide)) (by decide)
          refine lv_iload hx hb dX11_lot_74 (lv_at hl 1 rfl) ?_
          refine lv_iload_n hx hb dX11_lot_76 rfl (lv_at hl 2 rfl) ?_
          refine lv_iload hx hb dX11_lot_77 (lv_at hl 0 rfl) ?_
          refine kpurei (wc := []) hP hD hS hA [] rfl (by decide) (fun hPc hDc hFc => va_runS (As := [.int z9134, .int y10184]) (rest := [.int y10185]) ⟨hx, hb, hml, hown, hts⟩ (r_hasx l D cI cJ cB cC z9134 y10184 H.size) (va_cwS 2 hts gX11_lot_X11_has rfl rfl rfl hdX11_has ⟨Nat.le_of_ble_eq_true rfl, Nat.le_of_ble_eq_true rfl⟩) ⟨kBlind, fun U hU hW => ⟨rfl, by rw [hU], hN.warm hW, hE.pass hS hFc hW hU, by rw [hU]; exact hPc, va_K.moved hW.alike hK, hDc⟩⟩ rfl rfl hl.1 rfl (lv_room (Nat.le_of_ble_eq_true rfl)) dX11_lot_79 ⟨Nat.le_of_ble_eq_true rfl, Nat.le_of_ble_eq_true rfl⟩) (fun r10206 u H locs hw hP hS => ?_)
          obtain ⟨k10207, k10208, k10209⟩ := hw
          obtain rfl : r10188 = r10206 := k10189.trans k10207.symm
          refine lv_if_eq (tgt := 89) hx hb dX11_lot_82 (by decide) (fun _ => ?_) (fun c10211 => absurd (rg_eq k10205 (rg_lit (n := 0) (by decide)) (by decide)) c10211)
          refine lv_iconst (v := 0) hx hb dX11_lot_89 (by decide) ?_
          refine lv_isub hx hb dX11_lot_90 ?_
          refine lv_topi (fun x10212 ex10212 => ?_)
          have tx10212 : x10212.toInt = y10185.toInt - 0 := ti_sub ex10212 hy10185 (rg_lit (n := 0) (by decide)) (by decide) rfl (by decide)
          have k10213 : Rg x10212 0 99 := rg_sub ex10212 hy10185 (rg_lit (n := 0) (by decide)) (by decide)
          refine lv_istore (lv' := [(4, .int x10212), (5, .int y10184), (3, .int z9134), (2, .int y9108), (1, .int y9109), (0, .ref h)]) hx hb dX11_lot_91 hl (by decide) rfl (fun ls hl => ?_)
          obtain ⟨x10214, ex10214⟩ : ∃ y : Int32, y = y10184 + 1 := ⟨_, rfl⟩
          refine lv_iinc (v := x10214) (lv' := [(5, .int x10214), (4, .int x10212), (3, .int z9134), (2, .int y9108), (1, .int y9109), (0, .ref h)]) hx hb dX11_lot_93 hl (k := 1) rfl (by rw [ex10214]; rfl) (by decide) rfl (fun ls hl => ?_)
          have k10215 : Rg x10214 1 12 := rg_add ex10214 k10187 (rg_lit (n := 1) (by decide)) (by decide)
          refine lv_goto (tgt := 60) hx hb dX11_lot_96 (by decide) ?_
          exact ih10186 (x10214, x10212) _ _ _ (by show (12 - (x10214).toInt).toNat < (12 - (y10184).toInt).toNat; exact mu_up ex10214 k10187 k10215 (by decide)) ⟨(by have q1 := hX60_0; have q2 := tx10212; omega), (lot_a hX60_1 (s1_cN (by have q1 := k10187; unfold Rg at q1; omega) (ti_add (Y := 1) ex10214 k10187 (rg_lit (n := 1) (by decide)) (by decide) rfl (by decide))) (has_f k10189 (rg_w k9683 (by decide)) (rg_w k10187 (by decide)) (Int32.toInt_inj.mp (eqI c10204))) (by have q2 := tx10212; omega)), (hF4.trans (kIter_go (kC_eq rfl (kLet_eq (k10191).symm (kif_t (eqI c10204) (kLet_eq (k10209).symm (kLet_eq (ti_sub ex10212 hy10185 (rg_lit (n := 0) (by decide)) (by decide) rfl rfl) (kLet_eq (ti_add ex10214 k10187 (rg_lit (n := 1) (by decide)) (by decide) rfl rfl) rfl)))))))), (rg_w k10215 (by decide)), k10213, hP.sub (ws' := [(av, kcI cI 400 g9135), (ac, kcI cI 6060 g2), (h, oX11 0 aw ai ab ac hi x1 aP ta po en be de fa a5 sp av an ak ne aW aC ag aT aN aF), (aw, kcI cI 2179 g9690)]) [0, 1, 2, 3] rfl, hD.sub (ws' := [(av, kcI cI 400 g9135), (ac, kcI cI 6060 g2), (h, oX11 0 aw ai ab ac hi x1 aP ta po en be de fa a5 sp av an ak ne aW aC ag aT aN aF), (aw, kcI cI 2179 g9690)]) [0, 1, 2, 3] (by decide) rfl, hS, lv_sub (l' := [(5, .int x10214), (4, .int x10212), (3, .int z9134), (2, .int y9108), (1, .int y9109), (0, .ref h)]) hl [0, 1, 2, 3, 4, 5] rfl⟩
        · skip
          have k10216 : Rg r10188 1 1 := rg_n1 (neI c10204) k10190 (rg_lit (n := 0) (by decide)) (by decide)
          refine lv_iload hx hb dX11_lot_69 (lv_at hl 1 rfl) ?_
          refine lv_if_le (tgt := 99) hx hb dX11_lot_71 (by decide) (fun c10217 => ?_) (fun c10217 => ?_)
          · skip
            have k10218 : Rg y10185 0 0 := rg_e1 (leI c10217) hy10185 (rg_lit (n := 0) (by decide)) (by decide)
            refine lv_aload_n hx hb dX11_lot_99 rfl (lv_at hl 5 rfl) ?_
            refine lv_iload_n hx hb dX11_lot_100 rfl (lv_at hl 3 rfl) ?_
            refine lv_iload hx hb dX11_lot_101 (lv_at hl 0 rfl) ?_
            refine kcallv (wc := [(h, oX11 0 aw ai ab ac hi x1 aP ta po en be de fa a5 sp av an ak ne aW aC ag aT aN aF), (aw, kcI cI 2179 g9690)]) (wr := [(av, kcI cI 400 g9135), (ac, kcI cI 6060 g2)]) hP hD hS hA [2, 3] [0, 1] rfl rfl (by decide) (by decide) (by decide) (fun hPc hDc hFc => va_runV (As := [.int y9108, .int y10184]) (rest := []) ⟨hx, hb, hml, hown, hts⟩ (r_gives l D cI cJ cB cC h 0 aw ai ab ac hi x1 aP ta po en be de fa a5 sp av an ak ne aW aC ag aT aN aF g9690 y9108 y10184 H.size k9118 k10187 k9693 k9691 k9692) (cwV 2 hts gX11_lot_X11_gives rfl rfl rfl ⟨rfl, hdX11_gives⟩ ⟨Nat.le_of_ble_eq_true rfl, Nat.le_of_ble_eq_true rfl⟩) ⟨kBlind, va_recv hK hPc (ci := 10) (q0 := 0) rfl rfl, fun U hU hW => ⟨rfl, by rw [hU], hN.warm hW, hE.pass hS hFc hW hU, by rw [hU]; exact hPc, va_K.moved hW.alike hK, hDc⟩⟩ rfl rfl hl.1 rfl (lv_room (Nat.le_of_ble_eq_true rfl)) dX11_lot_103 ⟨Nat.le_of_ble_eq_true rfl, Nat.le_of_ble_eq_true rfl⟩) (fun u H locs hw hP hD hS => ?_)
            obtain ⟨g10219, rfl⟩ : ∃ z, z = u := ⟨_, rfl⟩
            have hP : va_P D vwCl [(av, kcI cI 400 g9135), (ac, kcI cI 6060 g2), (h, oX11 0 aw ai ab ac hi x1 aP ta po en be de fa a5 sp av an ak ne aW aC ag aT aN aF), (aw, kcI cI 2179 g10219)] H := hP
            have hD : va_D A [(av, kcI cI 400 g9135), (ac, kcI cI 6060 g2), (h, oX11 0 aw ai ab ac hi x1 aP ta po en be de fa a5 sp av an ak ne aW aC ag aT aN aF), (aw, kcI cI 2179 g10219)] := hD
            obtain ⟨k10220, k10221, k10222, k10223⟩ := hw
            obtain ⟨x10224, ex10224⟩ : ∃ y : Int32, y = y9109 + 1 := ⟨_, rfl⟩
            refine lv_iinc (v := x10224) (lv' := [(1, .int x10224), (5, .int y10184), (4, .int y10185), (3, .int z9134), (2, .int y9108), (0, .ref h)]) hx hb dX11_lot_106 hl (k := 4) rfl (by rw [ex10224]; rfl) (by decide) rfl (fun ls hl => ?_)
            exact hJ109 (x10224, g10219) _ _ _ ⟨(hF4.trans (kIter_out (kC_eq rfl (kLet_eq (k10191).symm (kif_f (neI c10204) (kif_t (leI c10217) (kLet_eq (k10223).symm (kLet_eq (ke_wadd ex10224) rfl)))))))), k10220, k10221, k10222, hP.sub (ws' := [(av, kcI cI 400 g9135), (h, oX11 0 aw ai ab ac hi x1 aP ta po en be de fa a5 sp av an ak ne aW aC ag aT aN aF), (aw, kcI cI 2179 g10219), (ac, kcI cI 6060 g2)]) [0, 2, 3, 1] rfl, hD.sub (ws' := [(av, kcI cI 400 g9135), (h, oX11 0 aw ai ab ac hi x1 aP ta po en be de fa a5 sp av an ak ne aW aC ag aT aN aF), (aw, kcI cI 2179 g10219), (ac, kcI cI 6060 g2)]) [0, 2, 3, 1] (by decide) rfl, hS, lv_sub (l' := [(3, .int z9134), (2, .int y9108), (1, .int x10224), (0, .ref h)]) hl [3, 4, 0, 5] rfl⟩
          · skip
            have k10225 : Rg y10185 1 99 := rg_l2 (nleI c10217) (rg_lit (n := 0) (by decide)) hy10185 (by decide)
            refine lv_iload hx hb dX11_lot_74 (lv_at hl 1 rfl) ?_
            refine lv_iload_n hx hb dX11_lot_76 rfl (lv_at hl 2 rfl) ?_
            refine lv_iload hx hb dX11_lot_77 (lv_at hl 0 rfl) ?_
            refine kpurei (wc := []) hP hD hS hA [] rfl (by decide) (fun hPc hDc hFc => va_runS (As := [.int z9134, .int y10184]) (rest := [.int y10185]) ⟨hx, hb, hml, hown, hts⟩ (r_hasx l D cI cJ cB cC z9134 y10184 H.size) (va_cwS 2 hts gX11_lot_X11_has rfl rfl rfl hdX11_has ⟨Nat.le_of_ble_eq_true rfl, Nat.le_of_ble_eq_true rfl⟩) ⟨kBlind, fun U hU hW => ⟨rfl, by rw [hU], hN.warm hW, hE.pass hS hFc hW hU, by rw [hU]; exact hPc, va_K.moved hW.alike hK, hDc⟩⟩ rfl rfl hl.1 rfl (lv_room (Nat.le_of_ble_eq_true rfl)) dX11_lot_79 ⟨Nat.le_of_ble_eq_true rfl, Nat.le_of_ble_eq_true rfl⟩) (fun r10226 u H locs hw hP hS => ?_)
            obtain ⟨k10227, k10228, k10229⟩ := hw
            obtain rfl : r10188 = r10226 := k10189.trans k10227.symm
            refine lv_if_eq (tgt := 89) hx hb dX11_lot_82 (by decide) (fun c10231 => absurd c10231 (rg_neq k10216 (rg_lit (n := 0) (by decide)) (by decide))) (fun _ => ?_)
            refine lv_iconst (v := 1) hx hb dX11_lot_85 (by decide) ?_
            refine lv_goto (tgt := 90) hx hb dX11_lot_86 (by decide) ?_
            refine lv_isub hx hb dX11_lot_90 ?_
            refine lv_topi (fun x10232 ex10232 => ?_)
            have tx10232 : x10232.toInt = y10185.toInt - 1 := ti_sub ex10232 k10225 (rg_lit (n := 1) (by decide)) (by decide) rfl (by decide)
            have k10233 : Rg x10232 0 98 := rg_sub ex10232 k10225 (rg_lit (n := 1) (by decide)) (by decide)
            refine lv_istore (lv' := [(4, .int x10232), (5, .int y10184), (3, .int z9134), (2, .int y9108), (1, .int y9109), (0, .ref h)]) hx hb dX11_lot_91 hl (by decide) rfl (fun ls hl => ?_)
            obtain ⟨x10234, ex10234⟩ : ∃ y : Int32, y = y10184 + 1 := ⟨_, rfl⟩
            refine lv_iinc (v := x10234) (lv' := [(5, .int x10234), (4, .int x10232), (3, .int z9134), (2, .int y9108), (1, .int y9109), (0, .ref h)]) hx hb dX11_lot_93 hl (k := 1) rfl (by rw [ex10234]; rfl) (by decide) rfl (fun ls hl => ?_)
            have k10235 : Rg x10234 1 12 := rg_add ex10234 k10187 (rg_lit (n := 1) (by decide)) (by decide)
            refine lv_goto (tgt := 60) hx hb dX11_lot_96 (by decide) ?_
            exact ih10186 (x10234, x10232) _ _ _ (by show (12 - (x10234).toInt).toNat < (12 - (y10184).toInt).toNat; exact mu_up ex10234 k10187 k10235 (by decide)) ⟨(by have q1 := (nleI c10217); have q2 := tx10232; have q0 : (0 : Int32).toInt = 0 := (by decide); omega), (lot_b hX60_1 (s1_cN (by have q1 := k10187; unfold Rg at q1; omega) (ti_add (Y := 1) ex10234 k10187 (rg_lit (n := 1) (by decide)) (by decide) rfl (by decide))) (has_t k10189 (rg_w k9683 (by decide)) (rg_w k10187 (by decide)) c10204) (by have q2 := tx10232; omega)), (hF4.trans (kIter_go (kC_eq rfl (kLet_eq (k10191).symm (kif_f (neI c10204) (kif_f (xF_le c10217) (kLet_eq (k10229).symm (kLet_eq (ti_sub ex10232 k10225 (rg_lit (n := 1) (by decide)) (by decide) rfl rfl) (kLet_eq (ti_add ex10234 k10187 (rg_lit (n := 1) (by decide)) (by decide) rfl rfl) rfl))))))))), (rg_w k10235 (by decide)), (rg_w k10233 (by decide)), hP.sub (ws' := [(av, kcI cI 400 g9135), (ac, kcI cI 6060 g2), (h, oX11 0 aw ai ab ac hi x1 aP ta po en be de fa a5 sp av an ak ne aW aC ag aT aN aF), (aw, kcI cI 2179 g9690)]) [0, 1, 2, 3] rfl, hD.sub (ws' := [(av, kcI cI 400 g9135), (ac, kcI cI 6060 g2), (h, oX11 0 aw ai ab ac hi x1 aP ta po en be de fa a5 sp av an ak ne aW aC ag aT aN aF), (aw, kcI cI 2179 g9690)]) [0, 1, 2, 3] (by decide) rfl, hS, lv_sub (l' := [(5, .int x10234), (4, .int x10232), (3, .int z9134), (2, .int y9108), (1, .int y9109), (0, .ref h)]) hl [0, 1, 2, 3, 4, 5] rfl⟩
      · skip
        have k10236 : Rg z9134 0 0 := rg_q1 (eqI c9682) hz9134 (rg_lit (n := 0) (by decide)) (by decide)
        refine lv_goto (tgt := 109) hx hb dX11_lot_44 (by decide) ?_
        exact hJ109 (y9109, g9111) _ _ _ ⟨(hF2.trans (kif_t (eqI c9682) rfl)), hg9111_0, hg9111_1, hg9111_2, hP.sub (ws' := [(av, kcI cI 400 g9135), (h, oX11 0 aw ai ab ac hi x1 aP ta po en be de fa a5 sp av an ak ne aW aC ag aT aN aF), (aw, kcI cI 2179 g9111), (ac, kcI cI 6060 g2)]) [0, 1, 2, 3] rfl, hD.sub (ws' := [(av, kcI cI 400 g9135), (h, oX11 0 aw ai ab ac hi x1 aP ta po en be de fa a5 sp av an ak ne aW aC ag aT aN aF), (aw, kcI cI 2179 g9111), (ac, kcI cI 6060 g2)]) [0, 1, 2, 3] (by decide) rfl, hS, lv_sub (l' := [(3, .int z9134), (2, .int y9108), (1, .int y9109), (0, .ref h)]) hl [0, 1, 2, 3] rfl⟩
    refine lv_if_lt (tgt := 34) hx hb dX11_lot_27 (by decide) (fun c10237 => ?_) (fun c10237 => ?_)
    · skip
      have k10238 : Rg r9120 (-1) (-1) := rg_l1 (ltI c10237) k9122 (rg_lit (n := 0) (by decide)) (by decide)
      refine lv_aload_n hx hb dX11_lot_34 rfl (lv_at hl 2 rfl) ?_
      refine lv_iload_n hx hb dX11_lot_35 rfl (lv_at hl 0 rfl) ?_
      refine kcalli (wc := [(h, oX11 0 aw ai ab ac hi x1 aP ta po en be de fa a5 sp av an ak ne aW aC ag aT aN aF), (aw, kcI cI 2179 g9111), (av, kcI cI 400 g9110)]) (wr := [(ac, kcI cI 6060 g2)]) hP hD hS hA [1, 2, 0] [3] rfl rfl (by decide) (by decide) (by decide) (fun hPc hDc hFc => va_runV (As := [.int y9108]) (rest := []) ⟨hx, hb, hml, hown, hts⟩ (r_givablex l D cI cJ cB cC h 0 aw ai ab ac hi x1 aP ta po en be de fa a5 sp av an ak ne aW aC ag aT aN aF g9111 g9110 y9108 H.size k9118 hg9111_2 hg9111_1) (cwV 1 hts gX11_lot_X11_givable rfl rfl rfl ⟨rfl, hdX11_givable⟩ ⟨Nat.le_of_ble_eq_true rfl, Nat.le_of_ble_eq_true rfl⟩) ⟨kBlind, va_recv hK hPc (ci := 10) (q0 := 0) rfl rfl, fun U hU hW => ⟨rfl, by rw [hU], hN.warm hW, hE.pass hS hFc hW hU, by rw [hU]; exact hPc, va_K.moved hW.alike hK, hDc⟩⟩ rfl rfl hl.1 rfl (lv_room (Nat.le_of_ble_eq_true rfl)) dX11_lot_36 ⟨Nat.le_of_ble_eq_true rfl, Nat.le_of_ble_eq_true rfl⟩) (fun r10239 u H locs hw hP hD hS => ?_)
      obtain ⟨g10240, rfl⟩ : ∃ z, z = u := ⟨_, rfl⟩
      have hP : va_P D vwCl [(ac, kcI cI 6060 g2), (h, oX11 0 aw ai ab ac hi x1 aP ta po en be de fa a5 sp av an ak ne aW aC ag aT aN aF), (aw, kcI cI 2179 g9111), (av, kcI cI 400 g10240)] H := hP
      have hD : va_D A [(ac, kcI cI 6060 g2), (h, oX11 0 aw ai ab ac hi x1 aP ta po en be de fa a5 sp av an ak ne aW aC ag aT aN aF), (aw, kcI cI 2179 g9111), (av, kcI cI 400 g10240)] := hD
      obtain ⟨k10241, k10242, k10243⟩ := hw
      exact hJ39 (r10239, g10240) _ _ _ ⟨(kC_eq rfl (kC_eq rfl (kC_eq rfl (kLet_eq (k9116).symm (kif_f (xF_le c9117) (kLet_eq (k9123).symm (kif_t (ltI c10237) (kC_eq k10243 rfl)))))))), k10242, hP.sub (ws' := [(av, kcI cI 400 g10240), (h, oX11 0 aw ai ab ac hi x1 aP ta po en be de fa a5 sp av an ak ne aW aC ag aT aN aF), (aw, kcI cI 2179 g9111), (ac, kcI cI 6060 g2)]) [3, 1, 2, 0] rfl, hD.sub (ws' := [(av, kcI cI 400 g10240), (h, oX11 0 aw ai ab ac hi x1 aP ta po en be de fa a5 sp av an ak ne aW aC ag aT aN aF), (aw, kcI cI 2179 g9111), (ac, kcI cI 6060 g2)]) [3, 1, 2, 0] (by decide) rfl, hS, lv_sub (l' := [(2, .int y9108), (1, .int y9109), (0, .ref h)]) hl [0, 1, 2] rfl⟩
    · skip
      have k10244 : Rg r9120 0 11 := rg_e2 (nltI c10237) (rg_lit (n := 0) (by decide)) k9122 (by decide)
      refine lv_iconst (v := 0) hx hb dX11_lot_30 (by decide) ?_
      refine lv_goto (tgt := 39) hx hb dX11_lot_31 (by decide) ?_
      exact hJ39 ((0 : Int32), g9110) _ _ _ ⟨(kC_eq rfl (kC_eq rfl (kC_eq rfl (kLet_eq (k9116).symm (kif_f (xF_le c9117) (kLet_eq (k9123).symm (kif_f (xF_lt c10237) rfl))))))), (rg_w (rg_lit (n := 0) (by decide)) (by decide)), hP.sub (ws' := [(av, kcI cI 400 g9110), (h, oX11 0 aw ai ab ac hi x1 aP ta po en be de fa a5 sp av an ak ne aW aC ag aT aN aF), (aw, kcI cI 2179 g9111), (ac, kcI cI 6060 g2)]) [0, 1, 2, 3] rfl, hD.sub (ws' := [(av, kcI cI 400 g9110), (h, oX11 0 aw ai ab ac hi x1 aP ta po en be de fa a5 sp av an ak ne aW aC ag aT aN aF), (aw, kcI cI 2179 g9111), (ac, kcI cI 6060 g2)]) [0, 1, 2, 3] (by decide) rfl, hS, lv_sub (l' := [(2, .int y9108), (1, .int y9109), (0, .ref h)]) hl [0, 1, 2] rfl⟩

