def kwX11_plans : List Cond := .code yX11_plans cX11_plans 5 (some .boolean) :: kG
theorem hdX11_plans : yX11_plans.cls ≠ "java/lang/invoke/MethodHandle" ∧ yX11_plans.cls ≠ "java/lang/invoke/VarHandle" ∧ (parseMethodDescriptor yX11_plans.desc).map (fun d => d.parameters.length) = some 1 := by decide +kernel
theorem gX11_plans_X11_allWays : GoodIn kG (wsV RX11 330 RX11 yX11_allWays kwX11_allWays) := gK w40_3 (gK w40_4 (gK w40_5 (gK w0_5 (gK w40_6 gGG))))
theorem gX11_plans_X11_isNext : GoodIn kG (wsV RX11 338 RX11 yX11_isNext kwX11_isNext) := gK w42_17 (gK w42_18 (gK w42_19 (gK w0_5 (gK w42_20 gGG))))
theorem gX11_plans_X11_leastCost : GoodIn kG (wsV RX11 335 RX11 yX11_leastCost kwX11_leastCost) := gK w42_12 (gK w42_13 (gK w42_14 (gK w0_5 (gK w42_15 gGG))))
theorem dX11_plans_0 : decode cX11_plans 0 = .ok (.iconst 0, 1) := by decide +kernel
theorem dX11_plans_1 : decode cX11_plans 1 = .ok (.istore_n 2, 1) := by decide +kernel
theorem dX11_plans_2 : decode cX11_plans 2 = .ok (.iload_n 2, 1) := by decide +kernel
theorem dX11_plans_3 : decode cX11_plans 3 = .ok (.bipush 10, 2) := by decide +kernel
theorem dX11_plans_5 : decode cX11_plans 5 = .ok (.if_icmp .ge 16, 3) := by decide +kernel
theorem dX11_plans_8 : decode cX11_plans 8 = .ok (.aload_n 0, 1) := by decide +kernel
theorem dX11_plans_9 : decode cX11_plans 9 = .ok (.getfield 52, 3) := by decide +kernel
theorem dX11_plans_12 : decode cX11_plans 12 = .ok (.iload_n 2, 1) := by decide +kernel
theorem dX11_plans_13 : decode cX11_plans 13 = .ok (.iconst (-1), 1) := by decide +kernel
theorem dX11_plans_14 : decode cX11_plans 14 = .ok (.iastore, 1) := by decide +kernel
theorem dX11_plans_15 : decode cX11_plans 15 = .ok (.iinc 2 1, 3) := by decide +kernel
theorem dX11_plans_18 : decode cX11_plans 18 = .ok (.goto (-16), 3) := by decide +kernel
theorem dX11_plans_21 : decode cX11_plans 21 = .ok (.aload_n 0, 1) := by decide +kernel
theorem dX11_plans_22 : decode cX11_plans 22 = .ok (.invokevirtual 330, 3) := by decide +kernel
theorem dX11_plans_25 : decode cX11_plans 25 = .ok (.lconst 0, 1) := by decide +kernel
theorem dX11_plans_26 : decode cX11_plans 26 = .ok (.lcmp, 1) := by decide +kernel
theorem dX11_plans_27 : decode cX11_plans 27 = .ok (.ifCond .ne 5, 3) := by decide +kernel
theorem dX11_plans_30 : decode cX11_plans 30 = .ok (.iconst 0, 1) := by decide +kernel
theorem dX11_plans_31 : decode cX11_plans 31 = .ok (.ireturn, 1) := by decide +kernel
theorem dX11_plans_32 : decode cX11_plans 32 = .ok (.aload_n 0, 1) := by decide +kernel
theorem dX11_plans_33 : decode cX11_plans 33 = .ok (.invokevirtual 335, 3) := by decide +kernel
theorem dX11_plans_36 : decode cX11_plans 36 = .ok (.pop, 1) := by decide +kernel
theorem dX11_plans_37 : decode cX11_plans 37 = .ok (.iconst 0, 1) := by decide +kernel
theorem dX11_plans_38 : decode cX11_plans 38 = .ok (.istore_n 2, 1) := by decide +kernel
theorem dX11_plans_39 : decode cX11_plans 39 = .ok (.iconst 0, 1) := by decide +kernel
theorem dX11_plans_40 : decode cX11_plans 40 = .ok (.istore_n 3, 1) := by decide +kernel
theorem dX11_plans_41 : decode cX11_plans 41 = .ok (.iload_n 3, 1) := by decide +kernel
theorem dX11_plans_42 : decode cX11_plans 42 = .ok (.aload_n 0, 1) := by decide +kernel
theorem dX11_plans_43 : decode cX11_plans 43 = .ok (.getfield 316, 3) := by decide +kernel
theorem dX11_plans_46 : decode cX11_plans 46 = .ok (.if_icmp .ge 50, 3) := by decide +kernel
theorem dX11_plans_49 : decode cX11_plans 49 = .ok (.iconst 0, 1) := by decide +kernel
theorem dX11_plans_50 : decode cX11_plans 50 = .ok (.istore 4, 2) := by decide +kernel
theorem dX11_plans_52 : decode cX11_plans 52 = .ok (.aload_n 0, 1) := by decide +kernel
theorem dX11_plans_53 : decode cX11_plans 53 = .ok (.iload_n 3, 1) := by decide +kernel
theorem dX11_plans_54 : decode cX11_plans 54 = .ok (.iload 4, 2) := by decide +kernel
theorem dX11_plans_56 : decode cX11_plans 56 = .ok (.iload_n 2, 1) := by decide +kernel
theorem dX11_plans_57 : decode cX11_plans 57 = .ok (.iload_n 1, 1) := by decide +kernel
theorem dX11_plans_58 : decode cX11_plans 58 = .ok (.invokevirtual 338, 3) := by decide +kernel
theorem dX11_plans_61 : decode cX11_plans 61 = .ok (.ifCond .ne 9, 3) := by decide +kernel
theorem dX11_plans_64 : decode cX11_plans 64 = .ok (.iinc 4 1, 3) := by decide +kernel
theorem dX11_plans_67 : decode cX11_plans 67 = .ok (.goto (-15), 3) := by decide +kernel
theorem dX11_plans_70 : decode cX11_plans 70 = .ok (.aload_n 0, 1) := by decide +kernel
theorem dX11_plans_71 : decode cX11_plans 71 = .ok (.getfield 52, 3) := by decide +kernel
theorem dX11_plans_74 : decode cX11_plans 74 = .ok (.aload_n 0, 1) := by decide +kernel
theorem dX11_plans_75 : decode cX11_plans 75 = .ok (.getfield 39, 3) := by decide +kernel
theorem dX11_plans_78 : decode cX11_plans 78 = .ok (.iload_n 3, 1) := by decide +kernel
theorem dX11_plans_79 : decode cX11_plans 79 = .ok (.iaload, 1) := by decide +kernel
theorem dX11_plans_80 : decode cX11_plans 80 = .ok (.iload 4, 2) := by decide +kernel
theorem dX11_plans_82 : decode cX11_plans 82 = .ok (.iastore, 1) := by decide +kernel
theorem dX11_plans_83 : decode cX11_plans 83 = .ok (.iload_n 2, 1) := by decide +kernel
theorem dX11_plans_84 : decode cX11_plans 84 = .ok (.iconst 1, 1) := by decide +kernel
theorem dX11_plans_85 : decode cX11_plans 85 = .ok (.iload 4, 2) := by decide +kernel
theorem dX11_plans_87 : decode cX11_plans 87 = .ok (.ishl, 1) := by decide +kernel
theorem dX11_plans_88 : decode cX11_plans 88 = .ok (.ior, 1) := by decide +kernel
theorem dX11_plans_89 : decode cX11_plans 89 = .ok (.istore_n 2, 1) := by decide +kernel
theorem dX11_plans_90 : decode cX11_plans 90 = .ok (.iinc 3 1, 3) := by decide +kernel
theorem dX11_plans_93 : decode cX11_plans 93 = .ok (.goto (-52), 3) := by decide +kernel
theorem dX11_plans_96 : decode cX11_plans 96 = .ok (.iconst 1, 1) := by decide +kernel
theorem dX11_plans_97 : decode cX11_plans 97 = .ok (.ireturn, 1) := by decide +kernel
set_option maxHeartbeats 4000000 in
set_option maxRecDepth 100000 in
/-- reference: plans -/
theorem r_plans0 (l : Launch) (D : va_G) (cI cJ cB cC : ClassId) (h : Nat) (th : Int32) (aw : Nat) (ai : Nat) (ab : Nat) (ac : Nat) (hi : Int32) (re : Int32) (aP : Nat) (ta : Int32) (po : Int32) (en : Int32) (be : Int32) (de : Int32) (fa : Int32) (a5 : Nat) (sp : Int32) (av : Nat) (an : Nat) (ak : Nat) (ne : Int32) (aW : Nat) (aC : Nat) (ag : Nat) (aT : Nat) (aN : Nat) (aF : Nat) (fw : Nat → Int32) (fv : Nat → Int32) (fn : Nat → Int32) (fk : Nat → Int32) (fW : Nat → Int64) (fC : Nat → Int32) (fg : Nat → Int32) (sz : Nat) (H_fw_W : wW fw) (H_fw_L : wL fw) (H_fn_N : wN fn) (H_fk_K : wK fk) (H_fC_F : wF fC) : Met l yX11_plans kwX11_plans ({ frames := 9, cells := 0, slots := 0, locals := 211 } : Room) (kPre D (kT cI cJ cB cC) sz [(h, oX11 th aw ai ab ac hi re aP ta po en be de fa a5 sp av an ak ne aW aC ag aT aN aF), (aw, kcI cI 2179 fw), (av, kcI cI 400 fv), (an, kcI cI 10 fn), (ak, kcI cI 10 fk), (aW, kcJ cJ 4096 fW), (aC, kcI cI 4096 fC), (ag, kcI cI 10 fg)] [.ref h, .int 0]) (va_Qi (fun (r : Int32) (uu : Int32 × (Nat → Int32) × (Nat → Int32) × (Nat → Int32) × (Nat → Int64) × (Nat → Int32) × (Nat → Int32)) => match uu with | (n0_, f1_, f2_, f3_, f4_, f5_, f6_) => Rg n0_ 0 10 ∧ wN f2_ ∧ wK f3_ ∧ wF f5_ ∧ F_r_plans0 (gT fw) (gT fv) (gT fn) (gT fk) fW (gT fC) (gT fg) = ((r : Int32).toInt, (n0_ : Int32).toInt, (gT f1_), (gT f2_), (gT f3_), f4_, (gT f5_), (gT f6_)) ∧ ((r = 0) ∨ (r = 1 ∧ ∀ j : Nat, j < cN n0_ → Rg (f6_ (cN (f2_ j))) 0 11))) (fun (uu : Int32 × (Nat → Int32) × (Nat → Int32) × (Nat → Int32) × (Nat → Int64) × (Nat → Int32) × (Nat → Int32)) (t : State) => match uu with | (n0_, f1_, f2_, f3_, f4_, f5_, f6_) => kB D (kT cI cJ cB cC) (va_A [(h, oX11 th aw ai ab ac hi re aP ta po en be de fa a5 sp av an ak ne aW aC ag aT aN aF), (aw, kcI cI 2179 fw), (av, kcI cI 400 fv), (an, kcI cI 10 fn), (ak, kcI cI 10 fk), (aW, kcJ cJ 4096 fW), (aC, kcI cI 4096 fC), (ag, kcI cI 10 fg)] sz) [(h, oX11 th aw ai ab ac hi re aP ta po en be de fa a5 sp av an ak n0_ aW aC ag aT aN aF), (aw, kcI cI 2179 fw), (av, kcI cI 400 f1_), (an, kcI cI 10 f2_), (ak, kcI cI 10 f3_), (aW, kcJ cJ 4096 f4_), (aC, kcI cI 4096 f5_), (ag, kcI cI 10 f6_)] t) (va_A [(h, oX11 th aw ai ab ac hi re aP ta po en be de fa a5 sp av an ak ne aW aC ag aT aN aF), (aw, kcI cI 2179 fw), (av, kcI cI 400 fv), (an, kcI cI 10 fn), (ak, kcI cI 10 fk), (aW, kcJ cJ 4096 fW), (aC, kcI cI 4096 fC), (ag, kcI cI 10 fg)] sz)) 0 0 (va_A [(h, oX11 th aw ai ab ac hi re aP ta po en be de fa a5 sp av an ak ne aW aC ag aT aN aF), (aw, kcI cI 2179 fw), (av, kcI cI 400 fv), (an, kcI cI 10 fn), (ak, kcI cI 10 fk), (aW, kcJ cJ 4096 fW), (aC, kcI cI 4096 fC), (ag, kcI cI 10 fg)] sz) := by
  refine Met.ofW (cc := cX11_plans) (maxL := 5) (ret := (some .boolean)) (by decide) rfl ?_
  intro p e s m args below meth c s₁ B hml hv
  obtain ⟨rfl, hsz, hN, hE, hP, hK, hD0⟩ := hv
  have hx := B.exec
  have hb := B.bytes
  have hr := B.returns
  have hts := fun (w : Cond) (h : w ∈ kG) => atoms_spec (ws := kwX11_plans) B.pre w (List.mem_cons_of_mem _ h)
  have hown : s.vm.findClass RX11 = some m.cls := findClass_of_methodNamed B.named
  subst hsz
  have hD := hD0.self (sz := s.heap.size)
  generalize hAe : va_A [(h, oX11 th aw ai ab ac hi re aP ta po en be de fa a5 sp av an ak ne aW aC ag aT aN aF), (aw, kcI cI 2179 fw), (av, kcI cI 400 fv), (an, kcI cI 10 fn), (ak, kcI cI 10 fk), (aW, kcJ cJ 4096 fW), (aC, kcI cI 4096 fC), (ag, kcI cI 10 fg)] s.heap.size = A at hD hE ⊢
  have hA : ∀ q : Nat, s.heap.size ≤ q → A q := fun q h => by rw [← hAe]; exact Or.inr h
  have hl := lv_entry ([.ref h, .int 0]) (n := 5) (Nat.le_of_ble_eq_true rfl)
  rw [lg_entry_eq]
  generalize (lg_sl ([.ref h, .int 0]) ++ List.replicate (5 - (lg_sl ([.ref h, .int 0])).length) Slot.unset).toArray = ls at hl ⊢
  have hl : lv_has ls 5 [(0, .ref h), (1, .int 0)] := hl
  obtain ⟨H, hH0⟩ : ∃ H, H = s.heap := ⟨_, rfl⟩
  have hS : va_S A s.heap H [] := by rw [hH0]; exact va_S.rf
  have hP : va_P D vwCl [(h, oX11 th aw ai ab ac hi re aP ta po en be de fa a5 sp av an ak ne aW aC ag aT aN aF), (aw, kcI cI 2179 fw), (av, kcI cI 400 fv), (an, kcI cI 10 fn), (ak, kcI cI 10 fk), (aW, kcJ cJ 4096 fW), (aC, kcI cI 4096 fC), (ag, kcI cI 10 fg)] H := by rw [hH0]; exact hP
  refine kHeap hH0 ?_
  clear hH0
  refine lv_iconst (v := 0) hx hb dX11_plans_0 (by decide) ?_
  refine lv_istore_n (lv' := [(2, .int 0), (0, .ref h), (1, .int 0)]) hx hb dX11_plans_1 rfl hl (by decide) rfl (fun ls hl => ?_)
  refine k_loop (hd := 2) (fun (u : Int32 × (Nat → Int32)) => match u with | (y119, g120) => (10 - (y119).toInt).toNat) (fun (u : Int32 × (Nat → Int32)) (H : Heap) (locs : List Loc) (ls : Array Slot) => match u with | (y119, g120) => (F_r_plans0 (gT fw) (gT fv) (gT fn) (gT fk) fW (gT fC) (gT fg) = F_r_plans0_l1 (gT fw) (gT fv) (gT fn) (gT fk) fW (gT fC) (y119.toInt, (gT g120))) ∧ Rg y119 0 10 ∧ va_P D vwCl [(h, oX11 th aw ai ab ac hi re aP ta po en be de fa a5 sp av an ak ne aW aC ag aT aN aF), (aw, kcI cI 2179 fw), (av, kcI cI 400 fv), (an, kcI cI 10 fn), (ak, kcI cI 10 fk), (aW, kcJ cJ 4096 fW), (aC, kcI cI 4096 fC), (ag, kcI cI 10 g120)] H ∧ va_D A [(h, oX11 th aw ai ab ac hi re aP ta po en be de fa a5 sp av an ak ne aW aC ag aT aN aF), (aw, kcI cI 2179 fw), (av, kcI cI 400 fv), (an, kcI cI 10 fn), (ak, kcI cI 10 fk), (aW, kcJ cJ 4096 fW), (aC, kcI cI 4096 fC), (ag, kcI cI 10 g120)] ∧ va_S A s.heap H locs ∧ lv_has ls 5 [(2, .int y119), (0, .ref h), (1, .int 0)]) ((0 : Int32), fg) ⟨rfl, (rg_w (rg_lit (n := 0) (by decide)) (by decide)), hP.sub (ws' := [(h, oX11 th aw ai ab ac hi re aP ta po en be de fa a5 sp av an ak ne aW aC ag aT aN aF), (aw, kcI cI 2179 fw), (av, kcI cI 400 fv), (an, kcI cI 10 fn), (ak, kcI cI 10 fk), (aW, kcJ cJ 4096 fW), (aC, kcI cI 4096 fC), (ag, kcI cI 10 fg)]) [0, 1, 2, 3, 4, 5, 6, 7] rfl, hD.sub (ws' := [(h, oX11 th aw ai ab ac hi re aP ta po en be de fa a5 sp av an ak ne aW aC ag aT aN aF), (aw, kcI cI 2179 fw), (av, kcI cI 400 fv), (an, kcI cI 10 fn), (ak, kcI cI 10 fk), (aW, kcJ cJ 4096 fW), (aC, kcI cI 4096 fC), (ag, kcI cI 10 fg)]) [0, 1, 2, 3, 4, 5, 6, 7] (by decide) rfl, hS, lv_sub (l' := [(2, .int 0), (0, .ref h), (1, .int 0)]) hl [0, 1, 2] rfl⟩ (fun u H locs ls hI ih121 => ?_)
  clear hP hD hS hl
  obtain ⟨y119, g120⟩ := u
  obtain ⟨hF1, hy119, hP, hD, hS, hl⟩ := hI
  have hP : va_P D vwCl [(h, oX11 th aw ai ab ac hi re aP ta po en be de fa a5 sp av an ak ne aW aC ag aT aN aF), (aw, kcI cI 2179 fw), (av, kcI cI 400 fv), (an, kcI cI 10 fn), (ak, kcI cI 10 fk), (aW, kcJ cJ 4096 fW), (aC, kcI cI 4096 fC), (ag, kcI cI 10 g120)] H := hP
  have hD : va_D A [(h, oX11 th aw ai ab ac hi re aP ta po en be de fa a5 sp av an ak ne aW aC ag aT aN aF), (aw, kcI cI 2179 fw), (av, kcI cI 400 fv), (an, kcI cI 10 fn), (ak, kcI cI 10 fk), (aW, kcJ cJ 4096 fW), (aC, kcI cI 4096 fC), (ag, kcI cI 10 g120)] := hD
  have hl : lv_has ls 5 [(2, .int y119), (0, .ref h), (1, .int 0)] := hl
  refine lv_iload_n hx hb dX11_plans_2 rfl (lv_at hl 0 rfl) ?_
  refine lv_bipush (v := 10) hx hb dX11_plans_3 (by decide) ?_
  refine lv_icmp_ge (tgt := 21) hx hb dX11_plans_5 (by decide) (fun c122 => ?_) (fun c122 => ?_)
  · skip
    have k123 : Rg y119 10 10 := rg_e2 (leI c122) (rg_lit (n := 10) (by decide)) hy119 (by decide)
    refine lv_aload_n hx hb dX11_plans_21 rfl (lv_at hl 1 rfl) ?_
    refine kcalll (wc := [(h, oX11 th aw ai ab ac hi re aP ta po en be de fa a5 sp av an ak ne aW aC ag aT aN aF), (aw, kcI cI 2179 fw), (av, kcI cI 400 fv), (an, kcI cI 10 fn), (ak, kcI cI 10 fk), (aW, kcJ cJ 4096 fW)]) (wr := [(aC, kcI cI 4096 fC), (ag, kcI cI 10 g120)]) hP hD hS hA [0, 1, 2, 3, 4, 5] [6, 7] rfl rfl (by decide) (by decide) (by decide) (fun hPc hDc hFc => va_runV (As := []) (rest := []) ⟨hx, hb, hml, hown, hts⟩ (r_allWaysx l D cI cJ cB cC h th aw ai ab ac hi re aP ta po en be de fa a5 sp av an ak ne aW aC ag aT aN aF fw fv fn fk fW H.size H_fw_W H_fw_L H_fn_N H_fk_K) (cwV 0 hts gX11_plans_X11_allWays rfl rfl rfl ⟨rfl, hdX11_allWays⟩ ⟨Nat.le_of_ble_eq_true rfl, Nat.le_of_ble_eq_true rfl⟩) ⟨kBlind, va_recv hK hPc (ci := 10) (q0 := 0) rfl rfl, fun U hU hW => ⟨rfl, by rw [hU], hN.warm hW, hE.pass hS hFc hW hU, by rw [hU]; exact hPc, va_K.moved hW.alike hK, hDc⟩⟩ rfl rfl hl.1 rfl (lv_room (Nat.le_of_ble_eq_true rfl)) dX11_plans_22 ⟨Nat.le_of_ble_eq_true rfl, Nat.le_of_ble_eq_true rfl⟩) (fun r124 u H locs hw hP hD hS => ?_)
    obtain ⟨x125, g126, g127, g128, g129⟩ := u
    have hP : va_P D vwCl [(aC, kcI cI 4096 fC), (ag, kcI cI 10 g120), (h, oX11 th aw ai ab ac hi re aP ta po en be de fa a5 sp av an ak x125 aW aC ag aT aN aF), (aw, kcI cI 2179 fw), (av, kcI cI 400 g126), (an, kcI cI 10 g127), (ak, kcI cI 10 g128), (aW, kcJ cJ 4096 g129)] H := hP
    have hD : va_D A [(aC, kcI cI 4096 fC), (ag, kcI cI 10 g120), (h, oX11 th aw ai ab ac hi re aP ta po en be de fa a5 sp av an ak x125 aW aC ag aT aN aF), (aw, kcI cI 2179 fw), (av, kcI cI 400 g126), (an, kcI cI 10 g127), (ak, kcI cI 10 g128), (aW, kcJ cJ 4096 g129)] := hD
    obtain ⟨k130, k131, k132, k133, k134, k135, k136⟩ := hw
    refine lv_lconst (v := 0) hx hb dX11_plans_25 (by decide) ?_
    refine W.lcmp hx hb dX11_plans_26 ?_
    refine lv_topi (fun x137 ex137 => ?_)
    have k138 : Rg x137 (-1) 1 := rg_cmp ex137
    refine lv_if_ne (tgt := 32) hx hb dX11_plans_27 (by decide) (fun c139 => ?_) (fun c139 => ?_)
    · skip
      refine lv_aload_n hx hb dX11_plans_32 rfl (lv_at hl 1 rfl) ?_
      refine kcalli (wc := [(h, oX11 th aw ai ab ac hi re aP ta po en be de fa a5 sp av an ak x125 aW aC ag aT aN aF), (aw, kcI cI 2179 fw), (av, kcI cI 400 g126), (an, kcI cI 10 g127), (ak, kcI cI 10 g128), (aC, kcI cI 4096 fC)]) (wr := [(ag, kcI cI 10 g120), (aW, kcJ cJ 4096 g129)]) hP hD hS hA [2, 3, 4, 5, 6, 0] [1, 7] rfl rfl (by decide) (by decide) (by decide) (fun hPc hDc hFc => va_runV (As := []) (rest := []) ⟨hx, hb, hml, hown, hts⟩ (r_leastCostx l D cI cJ cB cC h th aw ai ab ac hi re aP ta po en be de fa a5 sp av an ak x125 aW aC ag aT aN aF fw g126 g127 g128 fC H.size H_fw_W H_fw_L k131 k132 H_fC_F) (cwV 0 hts gX11_plans_X11_leastCost rfl rfl rfl ⟨rfl, hdX11_leastCost⟩ ⟨Nat.le_of_ble_eq_true rfl, Nat.le_of_ble_eq_true rfl⟩) ⟨kBlind, va_recv hK hPc (ci := 10) (q0 := 0) rfl rfl, fun U hU hW => ⟨rfl, by rw [hU], hN.warm hW, hE.pass hS hFc hW hU, by rw [hU]; exact hPc, va_K.moved hW.alike hK, hDc⟩⟩ rfl rfl hl.1 rfl (lv_room (Nat.le_of_ble_eq_true rfl)) dX11_plans_33 ⟨Nat.le_of_ble_eq_true rfl, Nat.le_of_ble_eq_true rfl⟩) (fun r140 u H locs hw hP hD hS => ?_)
      obtain ⟨x141, g142, g143, g144, g145⟩ := u
      have hP : va_P D vwCl [(ag, kcI cI 10 g120), (aW, kcJ cJ 4096 g129), (h, oX11 th aw ai ab ac hi re aP ta po en be de fa a5 sp av an ak x141 aW aC ag aT aN aF), (aw, kcI cI 2179 fw), (av, kcI cI 400 g142), (an, kcI cI 10 g143), (ak, kcI cI 10 g144), (aC, kcI cI 4096 g145)] H := hP
      have hD : va_D A [(ag, kcI cI 10 g120), (aW, kcJ cJ 4096 g129), (h, oX11 th aw ai ab ac hi re aP ta po en be de fa a5 sp av an ak x141 aW aC ag aT aN aF), (aw, kcI cI 2179 fw), (av, kcI cI 400 g142), (an, kcI cI 10 g143), (ak, kcI cI 10 g144), (aC, kcI cI 4096 g145)] := hD
      obtain ⟨k146, k147, k148, k149, k150, k151, k152, k153⟩ := hw
      refine lv_pop hx hb dX11_plans_36 rfl ?_
      have hsm := lk_same k134 k152
      have hTW : tW g129 g144 (cN x141) (cN (fw 1)) 0 := by rw [← cn_eq hsm.1]; exact tW_congr k133 (fun j hj => (hsm.2 j hj).2)
      have hW0 : ¬ (g129 0).toInt = 0 := by rw [← k135]; exact cmp_nz ex137 c139
      have hsh9 : cN (fw 1) ≤ 12 := cn_to (H_fw_W : wW fw).1.2.1 (by decide)
      refine lv_iconst (v := 0) hx hb dX11_plans_37 (by decide) ?_
      refine lv_istore_n (lv' := [(2, .int 0), (0, .ref h), (1, .int 0)]) hx hb dX11_plans_38 rfl hl (by decide) rfl (fun ls hl => ?_)
      refine lv_iconst (v := 0) hx hb dX11_plans_39 (by decide) ?_
      refine lv_istore_n (lv' := [(3, .int 0), (2, .int 0), (0, .ref h), (1, .int 0)]) hx hb dX11_plans_40 rfl hl (by decide) rfl (fun ls hl => ?_)
      refine k_loop (hd := 41) (fun (u : Int32 × Int32 × (Nat → Int32)) => match u with | (y2741, y2742, g2743) => (10 - (y2741).toInt).toNat) (fun (u : Int32 × Int32 × (Nat → Int32)) (H : Heap) (locs : List Loc) (ls : Array Slot) => match u with | (y2741, y2742, g2743) => (pop (cN y2742) = cN y2741) ∧ ((y2742 : Int32).toInt < ((2 ^ cN (fw 1) : Nat) : Int)) ∧ (¬ (g129 (cN y2742)).toInt = 0) ∧ (∀ j : Nat, j < cN y2741 → Rg (g2743 (cN (g143 j))) 0 11) ∧ ((y2741 : Int32).toInt ≤ (x141 : Int32).toInt) ∧ (F_r_plans0_l1_s (gT fw) (gT fv) (gT fn) (gT fk) fW (gT fC) (y119.toInt, (gT g120)) = F_r_plans0_l2 g129 x141.toInt (gT g142) (gT g143) (gT g144) (gT g145) (y2741.toInt, y2742.toInt, (gT g2743))) ∧ Rg y2741 0 10 ∧ Rg y2742 0 4095 ∧ va_P D vwCl [(ag, kcI cI 10 g2743), (aW, kcJ cJ 4096 g129), (h, oX11 th aw ai ab ac hi re aP ta po en be de fa a5 sp av an ak x141 aW aC ag aT aN aF), (aw, kcI cI 2179 fw), (av, kcI cI 400 g142), (an, kcI cI 10 g143), (ak, kcI cI 10 g144), (aC, kcI cI 4096 g145)] H ∧ va_D A [(ag, kcI cI 10 g2743), (aW, kcJ cJ 4096 g129), (h, oX11 th aw ai ab ac hi re aP ta po en be de fa a5 sp av an ak x141 aW aC ag aT aN aF), (aw, kcI cI 2179 fw), (av, kcI cI 400 g142), (an, kcI cI 10 g143), (ak, kcI cI 10 g144), (aC, kcI cI 4096 g145)] ∧ va_S A s.heap H locs ∧ lv_has ls 5 [(3, .int y2741), (2, .int y2742), (0, .ref h), (1, .int 0)]) ((0 : Int32), (0 : Int32), g120) ⟨(by have q0 : cN (0 : Int32) = 0 := (by decide); rw [q0]; exact pop_0), (z_lt2 _), (by have q0 : cN (0 : Int32) = 0 := (by decide); rw [q0]; exact hW0), (fun j hj => by have q0 : cN (0 : Int32) = 0 := (by decide); omega), (by have q1 := k146; unfold Rg at q1; have q2 : (0 : Int32).toInt = 0 := (by decide); omega), (kC_eq rfl (kif_t (leI c122) (kC_eq k136 (kC_eq rfl (kC_eq rfl (kC_eq rfl (kC_eq rfl (kLet_eq (ke_cmp ex137) (kif_f (neI c139) (kC_eq k153 (kC_eq rfl (kC_eq rfl (kC_eq rfl (kC_eq rfl rfl)))))))))))))), (rg_w (rg_lit (n := 0) (by decide)) (by decide)), (rg_w (rg_lit (n := 0) (by decide)) (by decide)), hP.sub (ws' := [(ag, kcI cI 10 g120), (aW, kcJ cJ 4096 g129), (h, oX11 th aw ai ab ac hi re aP ta po en be de fa a5 sp av an ak x141 aW aC ag aT aN aF), (aw, kcI cI 2179 fw), (av, kcI cI 400 g142), (an, kcI cI 10 g143), (ak, kcI cI 10 g144), (aC, kcI cI 4096 g145)]) [0, 1, 2, 3, 4, 5, 6, 7] rfl, hD.sub (ws' := [(ag, kcI cI 10 g120), (aW, kcJ cJ 4096 g129), (h, oX11 th aw ai ab ac hi re aP ta po en be de fa a5 sp av an ak x141 aW aC ag aT aN aF), (aw, kcI cI 2179 fw), (av, kcI cI 400 g142), (an, kcI cI 10 g143), (ak, kcI cI 10 g144), (aC, kcI cI 4096 g145)]) [0, 1, 2, 3, 4, 5, 6, 7] (by decide) rfl, hS, lv_sub (l' := [(3, .int 0), (2, .int 0), (0, .ref h), (1, .int 0)]) hl [0, 1, 2, 3] rfl⟩ (fun u H locs ls hI ih2744 => ?_)
      clear hP hD hS hl
      obtain ⟨y2741, y2742, g2743⟩ := u
      obtain ⟨hX41_0, hX41_1, hX41_2, hX41_3, hX41_4, hF2, hy2741, hy2742, hP, hD, hS, hl⟩ := hI
      have hP : va_P D vwCl [(ag, kcI cI 10 g2743), (aW, kcJ cJ 4096 g129), (h, oX11 th aw ai ab ac hi re aP ta po en be de fa a5 sp av an ak x141 aW aC ag aT aN aF), (aw, kcI cI 2179 fw), (av, kcI cI 400 g142), (an, kcI cI 10 g143), (ak, kcI cI 10 g144), (aC, kcI cI 4096 g145)] H := hP
      have hD : va_D A [(ag, kcI cI 10 g2743), (aW, kcJ cJ 4096 g129), (h, oX11 th aw ai ab ac hi re aP ta po en be de fa a5 sp av an ak x141 aW aC ag aT aN aF), (aw, kcI cI 2179 fw), (av, kcI cI 400 g142), (an, kcI cI 10 g143), (ak, kcI cI 10 g144), (aC, kcI cI 4096 g145)] := hD
      have hl : lv_has ls 5 [(3, .int y2741), (2, .int y2742), (0, .ref h), (1, .int 0)] := hl
      refine lv_iload_n hx hb dX11_plans_41 rfl (lv_at hl 0 rfl) ?_
      refine lv_aload_n hx hb dX11_plans_42 rfl (lv_at hl 2 rfl) ?_
      refine va_get (D := D) (ci := 10) (v := .int x141) (C := RX11) (T := TX11) (N := 26) hx hb hts iG_X11 hown hK hP 2 rfl rfl 19 (by decide) (hts _ w40_7) (fun _ h9 => h9) rfl dX11_plans_43 ?_
      refine lv_icmp_ge (tgt := 96) hx hb dX11_plans_46 (by decide) (fun c2745 => ?_) (fun c2745 => ?_)
      · skip
        refine lv_iconst (v := 1) hx hb dX11_plans_96 (by decide) ?_
        have hP9 := hP.sub (ws' := [(h, oX11 th aw ai ab ac hi re aP ta po en be de fa a5 sp av an ak x141 aW aC ag aT aN aF), (aw, kcI cI 2179 fw), (av, kcI cI 400 g142), (an, kcI cI 10 g143), (ak, kcI cI 10 g144), (aW, kcJ cJ 4096 g129), (aC, kcI cI 4096 g145), (ag, kcI cI 10 g2743)]) [2, 3, 4, 5, 6, 1, 7, 0] rfl
        have hD9 := hD.sub (ws' := [(h, oX11 th aw ai ab ac hi re aP ta po en be de fa a5 sp av an ak x141 aW aC ag aT aN aF), (aw, kcI cI 2179 fw), (av, kcI cI 400 g142), (an, kcI cI 10 g143), (ak, kcI cI 10 g144), (aW, kcJ cJ 4096 g129), (aC, kcI cI 4096 g145), (ag, kcI cI 10 g2743)]) [2, 3, 4, 5, 6, 1, 7, 0] (by decide) rfl
        exact W.zret (v := 1) hx hb hr (by decide) (fun t ht hW => ⟨⟨1, (x141, g142, g143, g144, g129, g145, g2743), rfl, ⟨k146, k147, k148, k149, (hF1.trans (kIter_out (hF2.trans (kIter_out (kC_eq rfl (kC_eq rfl (kif_t (leI c2745) rfl))))))), (Or.inr ⟨rfl, (by have q1 := hX41_4; have q2 := (leI c2745); have q3 : cN y2741 = cN x141 := cn_eq (by omega); rw [← q3]; exact hX41_3)⟩)⟩, by rw [ht]; exact hP9, va_K.moved hW.alike hK, hD9⟩, hS.F ht⟩) hS.2.2 dX11_plans_97
      · skip
        have k2746 : Rg y2741 0 9 := rg_l1 (nleI c2745) hy2741 k146 (by decide)
        have k2747 : Rg x141 1 10 := rg_l2 (nleI c2745) hy2741 k146 (by decide)
        refine lv_iconst (v := 0) hx hb dX11_plans_49 (by decide) ?_
        refine lv_istore (lv' := [(4, .int 0), (3, .int y2741), (2, .int y2742), (0, .ref h), (1, .int 0)]) hx hb dX11_plans_50 hl (by decide) rfl (fun ls hl => ?_)
        refine k_loop (hd := 52) (fun (y2886 : Int32) => (12 - (y2886).toInt).toNat) (fun (y2886 : Int32) (H : Heap) (locs : List Loc) (ls : Array Slot) => (∃ s9 : Nat, (y2886 : Int32).toInt ≤ (s9 : Int) ∧ s9 < cN (fw 1) ∧ nxF g129 g144 (cN y2741) (cN y2742) s9) ∧ (F_r_plans0_l2_s g129 x141.toInt (gT g142) (gT g143) (gT g144) (gT g145) (y2741.toInt, y2742.toInt, (gT g2743)) = F_r_plans0_l3 g129 (gT g143) (gT g144) y2741.toInt y2742.toInt (gT g2743) (y2886.toInt)) ∧ Rg y2886 0 12 ∧ va_P D vwCl [(ag, kcI cI 10 g2743), (aW, kcJ cJ 4096 g129), (h, oX11 th aw ai ab ac hi re aP ta po en be de fa a5 sp av an ak x141 aW aC ag aT aN aF), (aw, kcI cI 2179 fw), (av, kcI cI 400 g142), (an, kcI cI 10 g143), (ak, kcI cI 10 g144), (aC, kcI cI 4096 g145)] H ∧ va_D A [(ag, kcI cI 10 g2743), (aW, kcJ cJ 4096 g129), (h, oX11 th aw ai ab ac hi re aP ta po en be de fa a5 sp av an ak x141 aW aC ag aT aN aF), (aw, kcI cI 2179 fw), (av, kcI cI 400 g142), (an, kcI cI 10 g143), (ak, kcI cI 10 g144), (aC, kcI cI 4096 g145)] ∧ va_S A s.heap H locs ∧ lv_has ls 5 [(4, .int y2886), (3, .int y2741), (2, .int y2742), (0, .ref h), (1, .int 0)]) ((0 : Int32)) ⟨(ex_from (by rw [← hX41_0]; exact tW_go hTW (cn_lt hX41_1 (by have q1 := hy2742; unfold Rg at q1; omega)) (by rw [hX41_0]; exact cn_lt2 (nleI c2745) (by have q1 := k2746; unfold Rg at q1; omega)) hsh9 hX41_2)), (kC_eq rfl (kC_eq rfl (kif_f (xF_le c2745) rfl))), (rg_w (rg_lit (n := 0) (by decide)) (by decide)), hP.sub (ws' := [(ag, kcI cI 10 g2743), (aW, kcJ cJ 4096 g129), (h, oX11 th aw ai ab ac hi re aP ta po en be de fa a5 sp av an ak x141 aW aC ag aT aN aF), (aw, kcI cI 2179 fw), (av, kcI cI 400 g142), (an, kcI cI 10 g143), (ak, kcI cI 10 g144), (aC, kcI cI 4096 g145)]) [0, 1, 2, 3, 4, 5, 6, 7] rfl, hD.sub (ws' := [(ag, kcI cI 10 g2743), (aW, kcJ cJ 4096 g129), (h, oX11 th aw ai ab ac hi re aP ta po en be de fa a5 sp av an ak x141 aW aC ag aT aN aF), (aw, kcI cI 2179 fw), (av, kcI cI 400 g142), (an, kcI cI 10 g143), (ak, kcI cI 10 g144), (aC, kcI cI 4096 g145)]) [0, 1, 2, 3, 4, 5, 6, 7] (by decide) rfl, hS, lv_sub (l' := [(4, .int 0), (3, .int y2741), (2, .int y2742), (0, .ref h), (1, .int 0)]) hl [0, 1, 2, 3, 4] rfl⟩ (fun u H locs ls hI ih2887 => ?_)
        clear hP hD hS hl
        obtain ⟨y2886, rfl⟩ : ∃ z, z = u := ⟨_, rfl⟩
        obtain ⟨hX52_0, hF3, hy2886, hP, hD, hS, hl⟩ := hI
        have hP : va_P D vwCl [(ag, kcI cI 10 g2743), (aW, kcJ cJ 4096 g129), (h, oX11 th aw ai ab ac hi re aP ta po en be de fa a5 sp av an ak x141 aW aC ag aT aN aF), (aw, kcI cI 2179 fw), (av, kcI cI 400 g142), (an, kcI cI 10 g143), (ak, kcI cI 10 g144), (aC, kcI cI 4096 g145)] H := hP
        have hD : va_D A [(ag, kcI cI 10 g2743), (aW, kcJ cJ 4096 g129), (h, oX11 th aw ai ab ac hi re aP ta po en be de fa a5 sp av an ak x141 aW aC ag aT aN aF), (aw, kcI cI 2179 fw), (av, kcI cI 400 g142), (an, kcI cI 10 g143), (ak, kcI cI 10 g144), (aC, kcI cI 4096 g145)] := hD
        have hl : lv_has ls 5 [(4, .int y2886), (3, .int y2741), (2, .int y2742), (0, .ref h), (1, .int 0)] := hl
        have k2888 : Rg y2886 0 11 := (by have q1 := lt_of_ex hX52_0 (by have q1 := hy2886; unfold Rg at q1; omega); have q2 := hsh9; have q3 := hy2886; unfold Rg at q3; simp only [cN] at q1; exact ⟨by omega, by omega⟩)
        refine lv_aload_n hx hb dX11_plans_52 rfl (lv_at hl 3 rfl) ?_
        refine lv_iload_n hx hb dX11_plans_53 rfl (lv_at hl 1 rfl) ?_
        refine lv_iload hx hb dX11_plans_54 (lv_at hl 0 rfl) ?_
        refine lv_iload_n hx hb dX11_plans_56 rfl (lv_at hl 2 rfl) ?_
        refine lv_iload_n hx hb dX11_plans_57 rfl (lv_at hl 4 rfl) ?_
        refine kpurei (wc := [(h, oX11 th aw ai ab ac hi re aP ta po en be de fa a5 sp av an ak x141 aW aC ag aT aN aF), (ak, kcI cI 10 g144), (aW, kcJ cJ 4096 g129)]) hP hD hS hA [2, 6, 1] rfl (by decide) (fun hPc hDc hFc => va_runV (As := [.int y2741, .int y2886, .int y2742, .int 0]) (rest := []) ⟨hx, hb, hml, hown, hts⟩ (r_isNext0 l D cI cJ cB cC h th aw ai ab ac hi re aP ta po en be de fa a5 sp av an ak x141 aW aC ag aT aN aF g144 g129 y2741 y2886 y2742 H.size k2746 k2888 hy2742 k148) (cwV 4 hts gX11_plans_X11_isNext rfl rfl rfl ⟨rfl, hdX11_isNext⟩ ⟨Nat.le_of_ble_eq_true rfl, Nat.le_of_ble_eq_true rfl⟩) ⟨kBlind, va_recv hK hPc (ci := 10) (q0 := 0) rfl rfl, fun U hU hW => ⟨rfl, by rw [hU], hN.warm hW, hE.pass hS hFc hW hU, by rw [hU]; exact hPc, va_K.moved hW.alike hK, hDc⟩⟩ rfl rfl hl.1 rfl (lv_room (Nat.le_of_ble_eq_true rfl)) dX11_plans_58 ⟨Nat.le_of_ble_eq_true rfl, Nat.le_of_ble_eq_true rfl⟩) (fun r2889 u H locs hw hP hS => ?_)
        obtain ⟨k2890, hw⟩ := hw
        rcases hw with ⟨rfl, kc2891_0⟩ | ⟨rfl, kc2891_0⟩
        · skip
          refine lv_if_ne (tgt := 70) hx hb dX11_plans_61 (by decide) (fun c2892 => absurd (by decide) c2892) (fun _ => ?_)
          obtain ⟨x2893, ex2893⟩ : ∃ y : Int32, y = y2886 + 1 := ⟨_, rfl⟩
          refine lv_iinc (v := x2893) (lv' := [(4, .int x2893), (3, .int y2741), (2, .int y2742), (0, .ref h), (1, .int 0)]) hx hb dX11_plans_64 hl (k := 0) rfl (by rw [ex2893]; rfl) (by decide) rfl (fun ls hl => ?_)
          have k2894 : Rg x2893 1 12 := rg_add ex2893 k2888 (rg_lit (n := 1) (by decide)) (by decide)
          refine lv_goto (tgt := 52) hx hb dX11_plans_67 (by decide) ?_
          exact ih2887 (x2893) _ _ _ (by show (12 - (x2893).toInt).toNat < (12 - (y2886).toInt).toNat; exact mu_up ex2893 k2888 k2894 (by decide)) ⟨(ex_next hX52_0 kc2891_0 (ti_add (Y := 1) ex2893 k2888 (rg_lit (n := 1) (by decide)) (by decide) rfl (by decide))), (hF3.trans (kIter_go (kLet_eq (k2890).symm (kif_t rfl (kLet_eq (ti_add ex2893 k2888 (rg_lit (n := 1) (by decide)) (by decide) rfl rfl) rfl))))), (rg_w k2894 (by decide)), hP.sub (ws' := [(ag, kcI cI 10 g2743), (aW, kcJ cJ 4096 g129), (h, oX11 th aw ai ab ac hi re aP ta po en be de fa a5 sp av an ak x141 aW aC ag aT aN aF), (aw, kcI cI 2179 fw), (av, kcI cI 400 g142), (an, kcI cI 10 g143), (ak, kcI cI 10 g144), (aC, kcI cI 4096 g145)]) [0, 1, 2, 3, 4, 5, 6, 7] rfl, hD.sub (ws' := [(ag, kcI cI 10 g2743), (aW, kcJ cJ 4096 g129), (h, oX11 th aw ai ab ac hi re aP ta po en be de fa a5 sp av an ak x141 aW aC ag aT aN aF), (aw, kcI cI 2179 fw), (av, kcI cI 400 g142), (an, kcI cI 10 g143), (ak, kcI cI 10 g144), (aC, kcI cI 4096 g145)]) [0, 1, 2, 3, 4, 5, 6, 7] (by decide) rfl, hS, lv_sub (l' := [(4, .int x2893), (3, .int y2741), (2, .int y2742), (0, .ref h), (1, .int 0)]) hl [0, 1, 2, 3, 4] rfl⟩
        · skip
          refine lv_if_ne (tgt := 70) hx hb dX11_plans_61 (by decide) (fun _ => ?_) (fun c2895 => absurd c2895 (by decide))
          refine lv_aload_n hx hb dX11_plans_70 rfl (lv_at hl 3 rfl) ?_
          refine va_get (D := D) (ci := 10) (v := .ref ag) (C := RX11) (T := TX11) (N := 26) hx hb hts iG_X11 hown hK hP 2 rfl rfl 22 (by decide) (hts _ w5_16) (fun _ h9 => h9) rfl dX11_plans_71 ?_
          refine lv_aload_n hx hb dX11_plans_74 rfl (lv_at hl 3 rfl) ?_
          refine va_get (D := D) (ci := 10) (v := .ref an) (C := RX11) (T := TX11) (N := 26) hx hb hts iG_X11 hown hK hP 2 rfl rfl 17 (by decide) (hts _ w5_12) (fun _ h9 => h9) rfl dX11_plans_75 ?_
          refine lv_iload_n hx hb dX11_plans_78 rfl (lv_at hl 1 rfl) ?_
          refine va_iald hx hb hK hP 5 0 rfl rfl (rg_in k2746 (by decide)) dX11_plans_79 ?_
          refine lv_topi (fun x2896 ex2896 => ?_)
          have k2897 : Rg x2896 0 9 := wN_rd k147 ex2896
          refine lv_iload hx hb dX11_plans_80 (lv_at hl 0 rfl) ?_
          refine va_iast hx hb hK hP hD hS 0 0 rfl rfl (rg_in k2897 (by decide)) dX11_plans_82 (fun H locs hP hD hS => ?_)
          have hP : va_P D vwCl [(ag, kcI cI 10 (upd g2743 x2896.toNatClampNeg y2886)), (aW, kcJ cJ 4096 g129), (h, oX11 th aw ai ab ac hi re aP ta po en be de fa a5 sp av an ak x141 aW aC ag aT aN aF), (aw, kcI cI 2179 fw), (av, kcI cI 400 g142), (an, kcI cI 10 g143), (ak, kcI cI 10 g144), (aC, kcI cI 4096 g145)] H := hP
          have hD : va_D A [(ag, kcI cI 10 (upd g2743 x2896.toNatClampNeg y2886)), (aW, kcJ cJ 4096 g129), (h, oX11 th aw ai ab ac hi re aP ta po en be de fa a5 sp av an ak x141 aW aC ag aT aN aF), (aw, kcI cI 2179 fw), (av, kcI cI 400 g142), (an, kcI cI 10 g143), (ak, kcI cI 10 g144), (aC, kcI cI 4096 g145)] := hD
          generalize hg2898 : (upd g2743 x2896.toNatClampNeg y2886) = g2898 at hP hD
          refine lv_iload_n hx hb dX11_plans_83 rfl (lv_at hl 2 rfl) ?_
          refine lv_iconst (v := 1) hx hb dX11_plans_84 (by decide) ?_
          refine lv_iload hx hb dX11_plans_85 (lv_at hl 0 rfl) ?_
          refine lv_ishl hx hb dX11_plans_87 ?_
          refine lv_topi (fun x2899 ex2899 => ?_)
          have k2900 : Rg x2899 1 2048 := rg_shl1 11 ex2899 k2888 (by decide)
          refine lv_ior hx hb dX11_plans_88 ?_
          refine lv_topi (fun x2901 ex2901 => ?_)
          have k2902 : Rg x2901 0 4095 := rg_or 12 ex2901 hy2742 k2900 (by decide)
          refine lv_istore_n (lv' := [(2, .int x2901), (4, .int y2886), (3, .int y2741), (0, .ref h), (1, .int 0)]) hx hb dX11_plans_89 rfl hl (by decide) rfl (fun ls hl => ?_)
          obtain ⟨x2903, ex2903⟩ : ∃ y : Int32, y = y2741 + 1 := ⟨_, rfl⟩
          refine lv_iinc (v := x2903) (lv' := [(3, .int x2903), (2, .int x2901), (4, .int y2886), (0, .ref h), (1, .int 0)]) hx hb dX11_plans_90 hl (k := 2) rfl (by rw [ex2903]; rfl) (by decide) rfl (fun ls hl => ?_)
          have k2904 : Rg x2903 1 10 := rg_add ex2903 k2746 (rg_lit (n := 1) (by decide)) (by decide)
          refine lv_goto (tgt := 41) hx hb dX11_plans_93 (by decide) ?_
          exact ih2744 (x2903, x2901, g2898) _ _ _ (by show (10 - (x2903).toInt).toNat < (10 - (y2741).toInt).toNat; exact mu_up ex2903 k2746 k2904 (by decide)) ⟨(by rw [(or_bit ex2899 ex2901 hy2742 k2888).1, pop_or kc2891_0.1.2 (by have q1 := k2888; unfold Rg at q1; simp only [cN]; omega), hX41_0]; exact (s1_cN (by have q1 := k2746; unfold Rg at q1; omega) (ti_add (Y := 1) ex2903 k2746 (rg_lit (n := 1) (by decide)) (by decide) rfl (by decide))).symm), (lt_cn (by rw [(or_bit ex2899 ex2901 hy2742 k2888).1]; exact Nat.or_lt_two_pow (cn_lt hX41_1 (by have q1 := hy2742; unfold Rg at q1; omega)) (Nat.pow_lt_pow_right (by omega) (lt_of_ex hX52_0 (by have q1 := k2888; unfold Rg at q1; omega))))), (by rw [(or_bit ex2899 ex2901 hy2742 k2888).1]; have q1 := kc2891_0.2; omega), (gets_step hX41_3 hg2898 k2888 (cl_of (k := cN x2896) k2897 (by decide) (by simp only [cN]; have q1 := k2897; unfold Rg at q1; omega)) (by rw [ex2896, (cl_of (k := cN y2741) k2746 (by decide) (by simp only [cN]; have q1 := k2746; unfold Rg at q1; omega))]) (s1_cN (by have q1 := k2746; unfold Rg at q1; omega) (ti_add (Y := 1) ex2903 k2746 (rg_lit (n := 1) (by decide)) (by decide) rfl (by decide)))), (by have q1 := (nleI c2745); have q2 := (ti_add (Y := 1) ex2903 k2746 (rg_lit (n := 1) (by decide)) (by decide) rfl (by decide)); omega), (hF2.trans (kIter_go (hF3.trans (kIter_out (kLet_eq (k2890).symm (kif_f (by decide) (kLet_eq (ke_ld ex2896) (kLet_eq (ke_st hg2898) (kLet_eq (ke_shl ex2899) (kLet_eq (ke_or ex2901) (kLet_eq (ti_add ex2903 k2746 (rg_lit (n := 1) (by decide)) (by decide) rfl rfl) rfl))))))))))), (rg_w k2904 (by decide)), k2902, hP.sub (ws' := [(ag, kcI cI 10 g2898), (aW, kcJ cJ 4096 g129), (h, oX11 th aw ai ab ac hi re aP ta po en be de fa a5 sp av an ak x141 aW aC ag aT aN aF), (aw, kcI cI 2179 fw), (av, kcI cI 400 g142), (an, kcI cI 10 g143), (ak, kcI cI 10 g144), (aC, kcI cI 4096 g145)]) [0, 1, 2, 3, 4, 5, 6, 7] rfl, hD.sub (ws' := [(ag, kcI cI 10 g2898), (aW, kcJ cJ 4096 g129), (h, oX11 th aw ai ab ac hi re aP ta po en be de fa a5 sp av an ak x141 aW aC ag aT aN aF), (aw, kcI cI 2179 fw), (av, kcI cI 400 g142), (an, kcI cI 10 g143), (ak, kcI cI 10 g144), (aC, kcI cI 4096 g145)]) [0, 1, 2, 3, 4, 5, 6, 7] (by decide) rfl, hS, lv_sub (l' := [(3, .int x2903), (2, .int x2901), (0, .ref h), (1, .int 0)]) hl [0, 1, 3, 4] rfl⟩
    · skip
      have k2905 : Rg x137 0 0 := rg_q1 (eqI c139) k138 (rg_lit (n := 0) (by decide)) (by decide)
      refine lv_iconst (v := 0) hx hb dX11_plans_30 (by decide) ?_
      have hP9 := hP.sub (ws' := [(h, oX11 th aw ai ab ac hi re aP ta po en be de fa a5 sp av an ak x125 aW aC ag aT aN aF), (aw, kcI cI 2179 fw), (av, kcI cI 400 g126), (an, kcI cI 10 g127), (ak, kcI cI 10 g128), (aW, kcJ cJ 4096 g129), (aC, kcI cI 4096 fC), (ag, kcI cI 10 g120)]) [2, 3, 4, 5, 6, 7, 0, 1] rfl
      have hD9 := hD.sub (ws' := [(h, oX11 th aw ai ab ac hi re aP ta po en be de fa a5 sp av an ak x125 aW aC ag aT aN aF), (aw, kcI cI 2179 fw), (av, kcI cI 400 g126), (an, kcI cI 10 g127), (ak, kcI cI 10 g128), (aW, kcJ cJ 4096 g129), (aC, kcI cI 4096 fC), (ag, kcI cI 10 g120)]) [2, 3, 4, 5, 6, 7, 0, 1] (by decide) rfl
      exact W.zret (v := 0) hx hb hr (by decide) (fun t ht hW => ⟨⟨0, (x125, g126, g127, g128, g129, fC, g120), rfl, ⟨k130, k131, k132, H_fC_F, (hF1.trans (kIter_out (kC_eq rfl (kif_t (leI c122) (kC_eq k136 (kC_eq rfl (kC_eq rfl (kC_eq rfl (kC_eq rfl (kLet_eq (ke_cmp ex137) (kif_t (eqI c139) rfl))))))))))), (Or.inl rfl)⟩, by rw [ht]; exact hP9, va_K.moved hW.alike hK, hD9⟩, hS.F ht⟩) hS.2.2 dX11_plans_31
  · skip
    have k2906 : Rg y119 0 9 := rg_l1 (nleI c122) hy119 (rg_lit (n := 10) (by decide)) (by decide)
    refine lv_aload_n hx hb dX11_plans_8 rfl (lv_at hl 1 rfl) ?_
    refine va_get (D := D) (ci := 10) (v := .ref ag) (C := RX11) (T := TX11) (N := 26) hx hb hts iG_X11 hown hK hP 0 rfl rfl 22 (by decide) (hts _ w5_16) (fun _ h9 => h9) rfl dX11_plans_9 ?_
    refine lv_iload_n hx hb dX11_plans_12 rfl (lv_at hl 0 rfl) ?_
    refine lv_iconst (v := (-1)) hx hb dX11_plans_13 (by decide) ?_
    refine va_iast hx hb hK hP hD hS 7 0 rfl rfl (rg_in k2906 (by decide)) dX11_plans_14 (fun H locs hP hD hS => ?_)
    have hP : va_P D vwCl [(h, oX11 th aw ai ab ac hi re aP ta po en be de fa a5 sp av an ak ne aW aC ag aT aN aF), (aw, kcI cI 2179 fw), (av, kcI cI 400 fv), (an, kcI cI 10 fn), (ak, kcI cI 10 fk), (aW, kcJ cJ 4096 fW), (aC, kcI cI 4096 fC), (ag, kcI cI 10 (upd g120 y119.toNatClampNeg (-1)))] H := hP
    have hD : va_D A [(h, oX11 th aw ai ab ac hi re aP ta po en be de fa a5 sp av an ak ne aW aC ag aT aN aF), (aw, kcI cI 2179 fw), (av, kcI cI 400 fv), (an, kcI cI 10 fn), (ak, kcI cI 10 fk), (aW, kcJ cJ 4096 fW), (aC, kcI cI 4096 fC), (ag, kcI cI 10 (upd g120 y119.toNatClampNeg (-1)))] := hD
    generalize hg2907 : (upd g120 y119.toNatClampNeg (-1)) = g2907 at hP hD
    obtain ⟨x2908, ex2908⟩ : ∃ y : Int32, y = y119 + 1 := ⟨_, rfl⟩
    refine lv_iinc (v := x2908) (lv' := [(2, .int x2908), (0, .ref h), (1, .int 0)]) hx hb dX11_plans_15 hl (k := 0) rfl (by rw [ex2908]; rfl) (by decide) rfl (fun ls hl => ?_)
    have k2909 : Rg x2908 1 10 := rg_add ex2908 k2906 (rg_lit (n := 1) (by decide)) (by decide)
    refine lv_goto (tgt := 2) hx hb dX11_plans_18 (by decide) ?_
    exact ih121 (x2908, g2907) _ _ _ (by show (10 - (x2908).toInt).toNat < (10 - (y119).toInt).toNat; exact mu_up ex2908 k2906 k2909 (by decide)) ⟨(hF1.trans (kIter_go (kC_eq rfl (kif_f (xF_le c122) (kLet_eq (ke_st hg2907) (kLet_eq (ti_add ex2908 k2906 (rg_lit (n := 1) (by decide)) (by decide) rfl rfl) rfl)))))), (rg_w k2909 (by decide)), hP.sub (ws' := [(h, oX11 th aw ai ab ac hi re aP ta po en be de fa a5 sp av an ak ne aW aC ag aT aN aF), (aw, kcI cI 2179 fw), (av, kcI cI 400 fv), (an, kcI cI 10 fn), (ak, kcI cI 10 fk), (aW, kcJ cJ 4096 fW), (aC, kcI cI 4096 fC), (ag, kcI cI 10 g2907)]) [0, 1, 2, 3, 4, 5, 6, 7] rfl, hD.sub (ws' := [(h, oX11 th aw ai ab ac hi re aP ta po en be de fa a5 sp av an ak ne aW aC ag aT aN aF), (aw, kcI cI 2179 fw), (av, kcI cI 400 fv), (an, kcI cI 10 fn), (ak, kcI cI 10 fk), (aW, kcJ cJ 4096 fW), (aC, kcI cI 4096 fC), (ag, kcI cI 10 g2907)]) [0, 1, 2, 3, 4, 5, 6, 7] (by decide) rfl, hS, lv_sub (l' := [(2, .int x2908), (0, .ref h), (1, .int 0)]) hl [0, 1, 2] rfl⟩

set_option maxHeartbeats 4000000 in
set_option maxRecDepth 100000 in
/-- reference: plans -/
theorem r_plans1 (l : Launch) (D : va_G) (cI cJ cB cC : ClassId) (h : Nat) (th : Int32) (aw : Nat) (ai : Nat) (ab : Nat) (ac : Nat) (hi : Int32) (re : Int32) (aP : Nat) (ta : Int32) (po : Int32) (en : Int32) (be : Int32) (de : Int32) (fa : Int32) (a5 : Nat) (sp : Int32) (av : Nat) (an : Nat) (ak : Nat) (ne : Int32) (aW : Nat) (aC : Nat) (ag : Nat) (aT : Nat) (aN : Nat) (aF : Nat) (fw : Nat → Int32) (fv : Nat → Int32) (fn : Nat → Int32) (fk : Nat → Int32) (fW : Nat → Int64) (fC : Nat → Int32) (fg : Nat → Int32) (sz : Nat) (H_fw_W : wW fw) (H_fw_L : wL fw) (H_fn_N : wN fn) (H_fk_K : wK fk) (H_fC_F : wF fC) : Met l yX11_plans kwX11_plans ({ frames := 9, cells := 0, slots := 0, locals := 211 } : Room) (kPre D (kT cI cJ cB cC) sz [(h, oX11 th aw ai ab ac hi re aP ta po en be de fa a5 sp av an ak ne aW aC ag aT aN aF), (aw, kcI cI 2179 fw), (av, kcI cI 400 fv), (an, kcI cI 10 fn), (ak, kcI cI 10 fk), (aW, kcJ cJ 4096 fW), (aC, kcI cI 4096 fC), (ag, kcI cI 10 fg)] [.ref h, .int 1]) (va_Qi (fun (r : Int32) (uu : Int32 × (Nat → Int32) × (Nat → Int32) × (Nat → Int32) × (Nat → Int64) × (Nat → Int32) × (Nat → Int32)) => match uu with | (n0_, f1_, f2_, f3_, f4_, f5_, f6_) => Rg n0_ 0 10 ∧ wN f2_ ∧ wK f3_ ∧ wF f5_ ∧ F_r_plans1 (gT fw) (gT fv) (gT fn) (gT fk) fW (gT fC) (gT fg) = ((r : Int32).toInt, (n0_ : Int32).toInt, (gT f1_), (gT f2_), (gT f3_), f4_, (gT f5_), (gT f6_)) ∧ ((r = 0) ∨ (r = 1 ∧ ∀ j : Nat, j < cN n0_ → Rg (f6_ (cN (f2_ j))) 0 11))) (fun (uu : Int32 × (Nat → Int32) × (Nat → Int32) × (Nat → Int32) × (Nat → Int64) × (Nat → Int32) × (Nat → Int32)) (t : State) => match uu with | (n0_, f1_, f2_, f3_, f4_, f5_, f6_) => kB D (kT cI cJ cB cC) (va_A [(h, oX11 th aw ai ab ac hi re aP ta po en be de fa a5 sp av an ak ne aW aC ag aT aN aF), (aw, kcI cI 2179 fw), (av, kcI cI 400 fv), (an, kcI cI 10 fn), (ak, kcI cI 10 fk), (aW, kcJ cJ 4096 fW), (aC, kcI cI 4096 fC), (ag, kcI cI 10 fg)] sz) [(h, oX11 th aw ai ab ac hi re aP ta po en be de fa a5 sp av an ak n0_ aW aC ag aT aN aF), (aw, kcI cI 2179 fw), (av, kcI cI 400 f1_), (an, kcI cI 10 f2_), (ak, kcI cI 10 f3_), (aW, kcJ cJ 4096 f4_), (aC, kcI cI 4096 f5_), (ag, kcI cI 10 f6_)] t) (va_A [(h, oX11 th aw ai ab ac hi re aP ta po en be de fa a5 sp av an ak ne aW aC ag aT aN aF), (aw, kcI cI 2179 fw), (av, kcI cI 400 fv), (an, kcI cI 10 fn), (ak, kcI cI 10 fk), (aW, kcJ cJ 4096 fW), (aC, kcI cI 4096 fC), (ag, kcI cI 10 fg)] sz)) 0 0 (va_A [(h, oX11 th aw ai ab ac hi re aP ta po en be de fa a5 sp av an ak ne aW aC ag aT aN aF), (aw, kcI cI 2179 fw), (av, kcI cI 400 fv), (an, kcI cI 10 fn), (ak, kcI cI 10 fk), (aW, kcJ cJ 4096 fW), (aC, kcI cI 4096 fC), (ag, kcI cI 10 fg)] sz) := by
  refine Met.ofW (cc := cX11_plans) (maxL := 5) (ret := (some .boolean)) (by decide) rfl ?_
  intro p e s m args below meth c s₁ B hml hv
  obtain ⟨rfl, hsz, hN, hE, hP, hK, hD0⟩ := hv
  have hx := B.exec
  have hb := B.bytes
  have hr := B.returns
  have hts := fun (w : Cond) (h : w ∈ kG) => atoms_spec (ws := kwX11_plans) B.pre w (List.mem_cons_of_mem _ h)
  have hown : s.vm.findClass RX11 = some m.cls := findClass_of_methodNamed B.named
  subst hsz
  have hD := hD0.self (sz := s.heap.size)
  generalize hAe : va_A [(h, oX11 th aw ai ab ac hi re aP ta po en be de fa a5 sp av an ak ne aW aC ag aT aN aF), (aw, kcI cI 2179 fw), (av, kcI cI 400 fv), (an, kcI cI 10 fn), (ak, kcI cI 10 fk), (aW, kcJ cJ 4096 fW), (aC, kcI cI 4096 fC), (ag, kcI cI 10 fg)] s.heap.size = A at hD hE ⊢
  have hA : ∀ q : Nat, s.heap.size ≤ q → A q := fun q h => by rw [← hAe]; exact Or.inr h
  have hl := lv_entry ([.ref h, .int 1]) (n := 5) (Nat.le_of_ble_eq_true rfl)
  rw [lg_entry_eq]
  generalize (lg_sl ([.ref h, .int 1]) ++ List.replicate (5 - (lg_sl ([.ref h, .int 1])).length) Slot.unset).toArray = ls at hl ⊢
  have hl : lv_has ls 5 [(0, .ref h), (1, .int 1)] := hl
  obtain ⟨H, hH0⟩ : ∃ H, H = s.heap := ⟨_, rfl⟩
  have hS : va_S A s.heap H [] := by rw [hH0]; exact va_S.rf
  have hP : va_P D vwCl [(h, oX11 th aw ai ab ac hi re aP ta po en be de fa a5 sp av an ak ne aW aC ag aT aN aF), (aw, kcI cI 2179 fw), (av, kcI cI 400 fv), (an, kcI cI 10 fn), (ak, kcI cI 10 fk), (aW, kcJ cJ 4096 fW), (aC, kcI cI 4096 fC), (ag, kcI cI 10 fg)] H := by rw [hH0]; exact hP
  refine kHeap hH0 ?_
  clear hH0
  refine lv_iconst (v := 0) hx hb dX11_plans_0 (by decide) ?_
  refine lv_istore_n (lv' := [(2, .int 0), (0, .ref h), (1, .int 1)]) hx hb dX11_plans_1 rfl hl (by decide) rfl (fun ls hl => ?_)
  refine k_loop (hd := 2) (fun (u : Int32 × (Nat → Int32)) => match u with | (y119, g120) => (10 - (y119).toInt).toNat) (fun (u : Int32 × (Nat → Int32)) (H : Heap) (locs : List Loc) (ls : Array Slot) => match u with | (y119, g120) => (F_r_plans1 (gT fw) (gT fv) (gT fn) (gT fk) fW (gT fC) (gT fg) = F_r_plans1_l1 (gT fw) (gT fv) (gT fn) (gT fk) fW (gT fC) (y119.toInt, (gT g120))) ∧ Rg y119 0 10 ∧ va_P D vwCl [(h, oX11 th aw ai ab ac hi re aP ta po en be de fa a5 sp av an ak ne aW aC ag aT aN aF), (aw, kcI cI 2179 fw), (av, kcI cI 400 fv), (an, kcI cI 10 fn), (ak, kcI cI 10 fk), (aW, kcJ cJ 4096 fW), (aC, kcI cI 4096 fC), (ag, kcI cI 10 g120)] H ∧ va_D A [(h, oX11 th aw ai ab ac hi re aP ta po en be de fa a5 sp av an ak ne aW aC ag aT aN aF), (aw, kcI cI 2179 fw), (av, kcI cI 400 fv), (an, kcI cI 10 fn), (ak, kcI cI 10 fk), (aW, kcJ cJ 4096 fW), (aC, kcI cI 4096 fC), (ag, kcI cI 10 g120)] ∧ va_S A s.heap H locs ∧ lv_has ls 5 [(2, .int y119), (0, .ref h), (1, .int 1)]) ((0 : Int32), fg) ⟨rfl, (rg_w (rg_lit (n := 0) (by decide)) (by decide)), hP.sub (ws' := [(h, oX11 th aw ai ab ac hi re aP ta po en be de fa a5 sp av an ak ne aW aC ag aT aN aF), (aw, kcI cI 2179 fw), (av, kcI cI 400 fv), (an, kcI cI 10 fn), (ak, kcI cI 10 fk), (aW, kcJ cJ 4096 fW), (aC, kcI cI 4096 fC), (ag, kcI cI 10 fg)]) [0, 1, 2, 3, 4, 5, 6, 7] rfl, hD.sub (ws' := [(h, oX11 th aw ai ab ac hi re aP ta po en be de fa a5 sp av an ak ne aW aC ag aT aN aF), (aw, kcI cI 2179 fw), (av, kcI cI 400 fv), (an, kcI cI 10 fn), (ak, kcI cI 10 fk), (aW, kcJ cJ 4096 fW), (aC, kcI cI 4096 fC), (ag, kcI cI 10 fg)]) [0, 1, 2, 3, 4, 5, 6, 7] (by decide) rfl, hS, lv_sub (l' := [(2, .int 0), (0, .ref h), (1, .int 1)]) hl [0, 1, 2] rfl⟩ (fun u H locs ls hI ih121 => ?_)
  clear hP hD hS hl
  obtain ⟨y119, g120⟩ := u
  obtain ⟨hF1, hy119, hP, hD, hS, hl⟩ := hI
  have hP : va_P D vwCl [(h, oX11 th aw ai ab ac hi re aP ta po en be de fa a5 sp av an ak ne aW aC ag aT aN aF), (aw, kcI cI 2179 fw), (av, kcI cI 400 fv), (an, kcI cI 10 fn), (ak, kcI cI 10 fk), (aW, kcJ cJ 4096 fW), (aC, kcI cI 4096 fC), (ag, kcI cI 10 g120)] H := hP
  have hD : va_D A [(h, oX11 th aw ai ab ac hi re aP ta po en be de fa a5 sp av an ak ne aW aC ag aT aN aF), (aw, kcI cI 2179 fw), (av, kcI cI 400 fv), (an, kcI cI 10 fn), (ak, kcI cI 10 fk), (aW, kcJ cJ 4096 fW), (aC, kcI cI 4096 fC), (ag, kcI cI 10 g120)] := hD
  have hl : lv_has ls 5 [(2, .int y119), (0, .ref h), (1, .int 1)] := hl
  refine lv_iload_n hx hb dX11_plans_2 rfl (lv_at hl 0 rfl) ?_
  refine lv_bipush (v := 10) hx hb dX11_plans_3 (by decide) ?_
  refine lv_icmp_ge (tgt := 21) hx hb dX11_plans_5 (by decide) (fun c122 => ?_) (fun c122 => ?_)
  · skip
    have k123 : Rg y119 10 10 := rg_e2 (leI c122) (rg_lit (n := 10) (by decide)) hy119 (by decide)
    refine lv_aload_n hx hb dX11_plans_21 rfl (lv_at hl 1 rfl) ?_
    refine kcalll (wc := [(h, oX11 th aw ai ab ac hi re aP ta po en be de fa a5 sp av an ak ne aW aC ag aT aN aF), (aw, kcI cI 2179 fw), (av, kcI cI 400 fv), (an, kcI cI 10 fn), (ak, kcI cI 10 fk), (aW, kcJ cJ 4096 fW)]) (wr := [(aC, kcI cI 4096 fC), (ag, kcI cI 10 g120)]) hP hD hS hA [0, 1, 2, 3, 4, 5] [6, 7] rfl rfl (by decide) (by decide) (by decide) (fun hPc hDc hFc => va_runV (As := []) (rest := []) ⟨hx, hb, hml, hown, hts⟩ (r_allWaysx l D cI cJ cB cC h th aw ai ab ac hi re aP ta po en be de fa a5 sp av an ak ne aW aC ag aT aN aF fw fv fn fk fW H.size H_fw_W H_fw_L H_fn_N H_fk_K) (cwV 0 hts gX11_plans_X11_allWays rfl rfl rfl ⟨rfl, hdX11_allWays⟩ ⟨Nat.le_of_ble_eq_true rfl, Nat.le_of_ble_eq_true rfl⟩) ⟨kBlind, va_recv hK hPc (ci := 10) (q0 := 0) rfl rfl, fun U hU hW => ⟨rfl, by rw [hU], hN.warm hW, hE.pass hS hFc hW hU, by rw [hU]; exact hPc, va_K.moved hW.alike hK, hDc⟩⟩ rfl rfl hl.1 rfl (lv_room (Nat.le_of_ble_eq_true rfl)) dX11_plans_22 ⟨Nat.le_of_ble_eq_true rfl, Nat.le_of_ble_eq_true rfl⟩) (fun r124 u H locs hw hP hD hS => ?_)
    obtain ⟨x125, g126, g127, g128, g129⟩ := u
    have hP : va_P D vwCl [(aC, kcI cI 4096 fC), (ag, kcI cI 10 g120), (h, oX11 th aw ai ab ac hi re aP ta po en be de fa a5 sp av an ak x125 aW aC ag aT aN aF), (aw, kcI cI 2179 fw), (av, kcI cI 400 g126), (an, kcI cI 10 g127), (ak, kcI cI 10 g128), (aW, kcJ cJ 4096 g129)] H := hP
    have hD : va_D A [(aC, kcI cI 4096 fC), (ag, kcI cI 10 g120), (h, oX11 th aw ai ab ac hi re aP ta po en be de fa a5 sp av an ak x125 aW aC ag aT aN aF), (aw, kcI cI 2179 fw), (av, kcI cI 400 g126), (an, kcI cI 10 g127), (ak, kcI cI 10 g128), (aW, kcJ cJ 4096 g129)] := hD
    obtain ⟨k130, k131, k132, k133, k134, k135, k136⟩ := hw
    refine lv_lconst (v := 0) hx hb dX11_plans_25 (by decide) ?_
    refine W.lcmp hx hb dX11_plans_26 ?_
    refine lv_topi (fun x137 ex137 => ?_)
    have k138 : Rg x137 (-1) 1 := rg_cmp ex137
    refine lv_if_ne (tgt := 32) hx hb dX11_plans_27 (by decide) (fun c139 => ?_) (fun c139 => ?_)
    · skip
      refine lv_aload_n hx hb dX11_plans_32 rfl (lv_at hl 1 rfl) ?_
      refine kcalli (wc := [(h, oX11 th aw ai ab ac hi re aP ta po en be de fa a5 sp av an ak x125 aW aC ag aT aN aF), (aw, kcI cI 2179 fw), (av, kcI cI 400 g126), (an, kcI cI 10 g127), (ak, kcI cI 10 g128), (aC, kcI cI 4096 fC)]) (wr := [(ag, kcI cI 10 g120), (aW, kcJ cJ 4096 g129)]) hP hD hS hA [2, 3, 4, 5, 6, 0] [1, 7] rfl rfl (by decide) (by decide) (by decide) (fun hPc hDc hFc => va_runV (As := []) (rest := []) ⟨hx, hb, hml, hown, hts⟩ (r_leastCostx l D cI cJ cB cC h th aw ai ab ac hi re aP ta po en be de fa a5 sp av an ak x125 aW aC ag aT aN aF fw g126 g127 g128 fC H.size H_fw_W H_fw_L k131 k132 H_fC_F) (cwV 0 hts gX11_plans_X11_leastCost rfl rfl rfl ⟨rfl, hdX11_leastCost⟩ ⟨Nat.le_of_ble_eq_true rfl, Nat.le_of_ble_eq_true rfl⟩) ⟨kBlind, va_recv hK hPc (ci := 10) (q0 := 0) rfl rfl, fun U hU hW => ⟨rfl, by rw [hU], hN.warm hW, hE.pass hS hFc hW hU, by rw [hU]; exact hPc, va_K.moved hW.alike hK, hDc⟩⟩ rfl rfl hl.1 rfl (lv_room (Nat.le_of_ble_eq_true rfl)) dX11_plans_33 ⟨Nat.le_of_ble_eq_true rfl, Nat.le_of_ble_eq_true rfl⟩) (fun r140 u H locs hw hP hD hS => ?_)
      obtain ⟨x141, g142, g143, g144, g145⟩ := u
      have hP : va_P D vwCl [(ag, kcI cI 10 g120), (aW, kcJ cJ 4096 g129), (h, oX11 th aw ai ab ac hi re aP ta po en be de fa a5 sp av an ak x141 aW aC ag aT aN aF), (aw, kcI cI 2179 fw), (av, kcI cI 400 g142), (an, kcI cI 10 g143), (ak, kcI cI 10 g144), (aC, kcI cI 4096 g145)] H := hP
      have hD : va_D A [(ag, kcI cI 10 g120), (aW, kcJ cJ 4096 g129), (h, oX11 th aw ai ab ac hi re aP ta po en be de fa a5 sp av an ak x141 aW aC ag aT aN aF), (aw, kcI cI 2179 fw), (av, kcI cI 400 g142), (an, kcI cI 10 g143), (ak, kcI cI 10 g144), (aC, kcI cI 4096 g145)] := hD
      obtain ⟨k146, k147, k148, k149, k150, k151, k152, k153⟩ := hw
      refine lv_pop hx hb dX11_plans_36 rfl ?_
      have hsm := lk_same k134 k152
      have hTW : tW g129 g144 (cN x141) (cN (fw 1)) 0 := by rw [← cn_eq hsm.1]; exact tW_congr k133 (fun j hj => (hsm.2 j hj).2)
      have hW0 : ¬ (g129 0).toInt = 0 := by rw [← k135]; exact cmp_nz ex137 c139
      have hTC := k151
      have hsh9 : cN (fw 1) ≤ 12 := cn_to (H_fw_W : wW fw).1.2.1 (by decide)
      have hC0 : (g145 0).toInt < 1000000 := way_far hTW hTC H_fw_L hsh9 (cn_to k146 (by decide)) hW0
      refine lv_iconst (v := 0) hx hb dX11_plans_37 (by decide) ?_
      refine lv_istore_n (lv' := [(2, .int 0), (0, .ref h), (1, .int 1)]) hx hb dX11_plans_38 rfl hl (by decide) rfl (fun ls hl => ?_)
      refine lv_iconst (v := 0) hx hb dX11_plans_39 (by decide) ?_
      refine lv_istore_n (lv' := [(3, .int 0), (2, .int 0), (0, .ref h), (1, .int 1)]) hx hb dX11_plans_40 rfl hl (by decide) rfl (fun ls hl => ?_)
      refine k_loop (hd := 41) (fun (u : Int32 × Int32 × (Nat → Int32) × (Nat → Int32)) => match u with | (y3284, y3285, g3286, g3287) => (10 - (y3284).toInt).toNat) (fun (u : Int32 × Int32 × (Nat → Int32) × (Nat → Int32)) (H : Heap) (locs : List Loc) (ls : Array Slot) => match u with | (y3284, y3285, g3286, g3287) => (pop (cN y3285) = cN y3284) ∧ ((y3285 : Int32).toInt < ((2 ^ cN (fw 1) : Nat) : Int)) ∧ ((g145 (cN y3285)).toInt < 1000000) ∧ (∀ j : Nat, j < cN y3284 → Rg (g3286 (cN (g143 j))) 0 11) ∧ ((y3284 : Int32).toInt ≤ (x141 : Int32).toInt) ∧ (F_r_plans1_l1_s (gT fw) (gT fv) (gT fn) (gT fk) fW (gT fC) (y119.toInt, (gT g120)) = F_r_plans1_l2 (gT fw) g129 x141.toInt (gT g143) (gT g144) (gT g145) (y3284.toInt, y3285.toInt, (gT g3286), (gT g3287))) ∧ Rg y3284 0 10 ∧ Rg y3285 0 4095 ∧ va_P D vwCl [(ag, kcI cI 10 g3286), (aW, kcJ cJ 4096 g129), (h, oX11 th aw ai ab ac hi re aP ta po en be de fa a5 sp av an ak x141 aW aC ag aT aN aF), (aw, kcI cI 2179 fw), (av, kcI cI 400 g3287), (an, kcI cI 10 g143), (ak, kcI cI 10 g144), (aC, kcI cI 4096 g145)] H ∧ va_D A [(ag, kcI cI 10 g3286), (aW, kcJ cJ 4096 g129), (h, oX11 th aw ai ab ac hi re aP ta po en be de fa a5 sp av an ak x141 aW aC ag aT aN aF), (aw, kcI cI 2179 fw), (av, kcI cI 400 g3287), (an, kcI cI 10 g143), (ak, kcI cI 10 g144), (aC, kcI cI 4096 g145)] ∧ va_S A s.heap H locs ∧ lv_has ls 5 [(3, .int y3284), (2, .int y3285), (0, .ref h), (1, .int 1)]) ((0 : Int32), (0 : Int32), g120, g142) ⟨(by have q0 : cN (0 : Int32) = 0 := (by decide); rw [q0]; exact pop_0), (z_lt2 _), (by have q0 : cN (0 : Int32) = 0 := (by decide); rw [q0]; exact hC0), (fun j hj => by have q0 : cN (0 : Int32) = 0 := (by decide); omega), (by have q1 := k146; unfold Rg at q1; have q2 : (0 : Int32).toInt = 0 := (by decide); omega), (kC_eq rfl (kif_t (leI c122) (kC_eq k136 (kC_eq rfl (kC_eq rfl (kC_eq rfl (kC_eq rfl (kLet_eq (ke_cmp ex137) (kif_f (neI c139) (kC_eq k153 (kC_eq rfl (kC_eq rfl (kC_eq rfl (kC_eq rfl rfl)))))))))))))), (rg_w (rg_lit (n := 0) (by decide)) (by decide)), (rg_w (rg_lit (n := 0) (by decide)) (by decide)), hP.sub (ws' := [(ag, kcI cI 10 g120), (aW, kcJ cJ 4096 g129), (h, oX11 th aw ai ab ac hi re aP ta po en be de fa a5 sp av an ak x141 aW aC ag aT aN aF), (aw, kcI cI 2179 fw), (av, kcI cI 400 g142), (an, kcI cI 10 g143), (ak, kcI cI 10 g144), (aC, kcI cI 4096 g145)]) [0, 1, 2, 3, 4, 5, 6, 7] rfl, hD.sub (ws' := [(ag, kcI cI 10 g120), (aW, kcJ cJ 4096 g129), (h, oX11 th aw ai ab ac hi re aP ta po en be de fa a5 sp av an ak x141 aW aC ag aT aN aF), (aw, kcI cI 2179 fw), (av, kcI cI 400 g142), (an, kcI cI 10 g143), (ak, kcI cI 10 g144), (aC, kcI cI 4096 g145)]) [0, 1, 2, 3, 4, 5, 6, 7] (by decide) rfl, hS, lv_sub (l' := [(3, .int 0), (2, .int 0), (0, .ref h), (1, .int 1)]) hl [0, 1, 2, 3] rfl⟩ (fun u H locs ls hI ih3288 => ?_)
      clear hP hD hS hl
      obtain ⟨y3284, y3285, g3286, g3287⟩ := u
      obtain ⟨hX41_0, hX41_1, hX41_2, hX41_3, hX41_4, hF2, hy3284, hy3285, hP, hD, hS, hl⟩ := hI
      have hP : va_P D vwCl [(ag, kcI cI 10 g3286), (aW, kcJ cJ 4096 g129), (h, oX11 th aw ai ab ac hi re aP ta po en be de fa a5 sp av an ak x141 aW aC ag aT aN aF), (aw, kcI cI 2179 fw), (av, kcI cI 400 g3287), (an, kcI cI 10 g143), (ak, kcI cI 10 g144), (aC, kcI cI 4096 g145)] H := hP
      have hD : va_D A [(ag, kcI cI 10 g3286), (aW, kcJ cJ 4096 g129), (h, oX11 th aw ai ab ac hi re aP ta po en be de fa a5 sp av an ak x141 aW aC ag aT aN aF), (aw, kcI cI 2179 fw), (av, kcI cI 400 g3287), (an, kcI cI 10 g143), (ak, kcI cI 10 g144), (aC, kcI cI 4096 g145)] := hD
      have hl : lv_has ls 5 [(3, .int y3284), (2, .int y3285), (0, .ref h), (1, .int 1)] := hl
      refine lv_iload_n hx hb dX11_plans_41 rfl (lv_at hl 0 rfl) ?_
      refine lv_aload_n hx hb dX11_plans_42 rfl (lv_at hl 2 rfl) ?_
      refine va_get (D := D) (ci := 10) (v := .int x141) (C := RX11) (T := TX11) (N := 26) hx hb hts iG_X11 hown hK hP 2 rfl rfl 19 (by decide) (hts _ w40_7) (fun _ h9 => h9) rfl dX11_plans_43 ?_
      refine lv_icmp_ge (tgt := 96) hx hb dX11_plans_46 (by decide) (fun c3289 => ?_) (fun c3289 => ?_)
      · skip
        refine lv_iconst (v := 1) hx hb dX11_plans_96 (by decide) ?_
        have hP9 := hP.sub (ws' := [(h, oX11 th aw ai ab ac hi re aP ta po en be de fa a5 sp av an ak x141 aW aC ag aT aN aF), (aw, kcI cI 2179 fw), (av, kcI cI 400 g3287), (an, kcI cI 10 g143), (ak, kcI cI 10 g144), (aW, kcJ cJ 4096 g129), (aC, kcI cI 4096 g145), (ag, kcI cI 10 g3286)]) [2, 3, 4, 5, 6, 1, 7, 0] rfl
        have hD9 := hD.sub (ws' := [(h, oX11 th aw ai ab ac hi re aP ta po en be de fa a5 sp av an ak x141 aW aC ag aT aN aF), (aw, kcI cI 2179 fw), (av, kcI cI 400 g3287), (an, kcI cI 10 g143), (ak, kcI cI 10 g144), (aW, kcJ cJ 4096 g129), (aC, kcI cI 4096 g145), (ag, kcI cI 10 g3286)]) [2, 3, 4, 5, 6, 1, 7, 0] (by decide) rfl
        exact W.zret (v := 1) hx hb hr (by decide) (fun t ht hW => ⟨⟨1, (x141, g3287, g143, g144, g129, g145, g3286), rfl, ⟨k146, k147, k148, k149, (hF1.trans (kIter_out (hF2.trans (kIter_out (kC_eq rfl (kC_eq rfl (kC_eq rfl (kif_t (leI c3289) rfl)))))))), (Or.inr ⟨rfl, (by have q1 := hX41_4; have q2 := (leI c3289); have q3 : cN y3284 = cN x141 := cn_eq (by omega); rw [← q3]; exact hX41_3)⟩)⟩, by rw [ht]; exact hP9, va_K.moved hW.alike hK, hD9⟩, hS.F ht⟩) hS.2.2 dX11_plans_97
      · skip
        have k3290 : Rg y3284 0 9 := rg_l1 (nleI c3289) hy3284 k146 (by decide)
        have k3291 : Rg x141 1 10 := rg_l2 (nleI c3289) hy3284 k146 (by decide)
        refine lv_iconst (v := 0) hx hb dX11_plans_49 (by decide) ?_
        refine lv_istore (lv' := [(4, .int 0), (3, .int y3284), (2, .int y3285), (0, .ref h), (1, .int 1)]) hx hb dX11_plans_50 hl (by decide) rfl (fun ls hl => ?_)
        refine k_loop (hd := 52) (fun (u : Int32 × (Nat → Int32)) => match u with | (y3461, g3462) => (12 - (y3461).toInt).toNat) (fun (u : Int32 × (Nat → Int32)) (H : Heap) (locs : List Loc) (ls : Array Slot) => match u with | (y3461, g3462) => (∃ s9 : Nat, (y3461 : Int32).toInt ≤ (s9 : Int) ∧ s9 < cN (fw 1) ∧ nxC g145 (fun k9 s9 => (cF fw (g143 k9) (nI s9)).toInt) g144 (cN y3284) (cN y3285) s9) ∧ (F_r_plans1_l2_s (gT fw) g129 x141.toInt (gT g143) (gT g144) (gT g145) (y3284.toInt, y3285.toInt, (gT g3286), (gT g3287)) = F_r_plans1_l3 (gT fw) (gT g143) (gT g144) (gT g145) y3284.toInt y3285.toInt (gT g3286) (y3461.toInt, (gT g3462))) ∧ Rg y3461 0 12 ∧ va_P D vwCl [(ag, kcI cI 10 g3286), (aW, kcJ cJ 4096 g129), (h, oX11 th aw ai ab ac hi re aP ta po en be de fa a5 sp av an ak x141 aW aC ag aT aN aF), (aw, kcI cI 2179 fw), (av, kcI cI 400 g3462), (an, kcI cI 10 g143), (ak, kcI cI 10 g144), (aC, kcI cI 4096 g145)] H ∧ va_D A [(ag, kcI cI 10 g3286), (aW, kcJ cJ 4096 g129), (h, oX11 th aw ai ab ac hi re aP ta po en be de fa a5 sp av an ak x141 aW aC ag aT aN aF), (aw, kcI cI 2179 fw), (av, kcI cI 400 g3462), (an, kcI cI 10 g143), (ak, kcI cI 10 g144), (aC, kcI cI 4096 g145)] ∧ va_S A s.heap H locs ∧ lv_has ls 5 [(4, .int y3461), (3, .int y3284), (2, .int y3285), (0, .ref h), (1, .int 1)]) ((0 : Int32), g3287) ⟨(ex_from (by rw [← hX41_0]; exact tC_go hTC (cn_lt hX41_1 (by have q1 := hy3285; unfold Rg at q1; omega)) (by rw [hX41_0]; exact cn_lt2 (nleI c3289) (by have q1 := k3290; unfold Rg at q1; omega)) hX41_2)), (kC_eq rfl (kC_eq rfl (kC_eq rfl (kif_f (xF_le c3289) rfl)))), (rg_w (rg_lit (n := 0) (by decide)) (by decide)), hP.sub (ws' := [(ag, kcI cI 10 g3286), (aW, kcJ cJ 4096 g129), (h, oX11 th aw ai ab ac hi re aP ta po en be de fa a5 sp av an ak x141 aW aC ag aT aN aF), (aw, kcI cI 2179 fw), (av, kcI cI 400 g3287), (an, kcI cI 10 g143), (ak, kcI cI 10 g144), (aC, kcI cI 4096 g145)]) [0, 1, 2, 3, 4, 5, 6, 7] rfl, hD.sub (ws' := [(ag, kcI cI 10 g3286), (aW, kcJ cJ 4096 g129), (h, oX11 th aw ai ab ac hi re aP ta po en be de fa a5 sp av an ak x141 aW aC ag aT aN aF), (aw, kcI cI 2179 fw), (av, kcI cI 400 g3287), (an, kcI cI 10 g143), (ak, kcI cI 10 g144), (aC, kcI cI 4096 g145)]) [0, 1, 2, 3, 4, 5, 6, 7] (by decide) rfl, hS, lv_sub (l' := [(4, .int 0), (3, .int y3284), (2, .int y3285), (0, .ref h), (1, .int 1)]) hl [0, 1, 2, 3, 4] rfl⟩ (fun u H locs ls hI ih3463 => ?_)
        clear hP hD hS hl
        obtain ⟨y3461, g3462⟩ := u
        obtain ⟨hX52_0, hF3, hy3461, hP, hD, hS, hl⟩ := hI
        have hP : va_P D vwCl [(ag, kcI cI 10 g3286), (aW, kcJ cJ 4096 g129), (h, oX11 th aw ai ab ac hi re aP ta po en be de fa a5 sp av an ak x141 aW aC ag aT aN aF), (aw, kcI cI 2179 fw), (av, kcI cI 400 g3462), (an, kcI cI 10 g143), (ak, kcI cI 10 g144), (aC, kcI cI 4096 g145)] H := hP
        have hD : va_D A [(ag, kcI cI 10 g3286), (aW, kcJ cJ 4096 g129), (h, oX11 th aw ai ab ac hi re aP ta po en be de fa a5 sp av an ak x141 aW aC ag aT aN aF), (aw, kcI cI 2179 fw), (av, kcI cI 400 g3462), (an, kcI cI 10 g143), (ak, kcI cI 10 g144), (aC, kcI cI 4096 g145)] := hD
        have hl : lv_has ls 5 [(4, .int y3461), (3, .int y3284), (2, .int y3285), (0, .ref h), (1, .int 1)] := hl
        have k3464 : Rg y3461 0 11 := (by have q1 := lt_of_ex hX52_0 (by have q1 := hy3461; unfold Rg at q1; omega); have q2 := hsh9; have q3 := hy3461; unfold Rg at q3; simp only [cN] at q1; exact ⟨by omega, by omega⟩)
        refine lv_aload_n hx hb dX11_plans_52 rfl (lv_at hl 3 rfl) ?_
        refine lv_iload_n hx hb dX11_plans_53 rfl (lv_at hl 1 rfl) ?_
        refine lv_iload hx hb dX11_plans_54 (lv_at hl 0 rfl) ?_
        refine lv_iload_n hx hb dX11_plans_56 rfl (lv_at hl 2 rfl) ?_
        refine lv_iload_n hx hb dX11_plans_57 rfl (lv_at hl 4 rfl) ?_
        refine kcalli (wc := [(h, oX11 th aw ai ab ac hi re aP ta po en be de fa a5 sp av an ak x141 aW aC ag aT aN aF), (aw, kcI cI 2179 fw), (av, kcI cI 400 g3462), (an, kcI cI 10 g143), (ak, kcI cI 10 g144), (aC, kcI cI 4096 g145)]) (wr := [(ag, kcI cI 10 g3286), (aW, kcJ cJ 4096 g129)]) hP hD hS hA [2, 3, 4, 5, 6, 7] [0, 1] rfl rfl (by decide) (by decide) (by decide) (fun hPc hDc hFc => va_runV (As := [.int y3284, .int y3461, .int y3285, .int 1]) (rest := []) ⟨hx, hb, hml, hown, hts⟩ (r_isNext1 l D cI cJ cB cC h th aw ai ab ac hi re aP ta po en be de fa a5 sp av an ak x141 aW aC ag aT aN aF fw g3462 g143 g144 g145 y3284 y3461 y3285 H.size k3290 k3464 hy3285 H_fw_W H_fw_L k147 k148 k149) (cwV 4 hts gX11_plans_X11_isNext rfl rfl rfl ⟨rfl, hdX11_isNext⟩ ⟨Nat.le_of_ble_eq_true rfl, Nat.le_of_ble_eq_true rfl⟩) ⟨kBlind, va_recv hK hPc (ci := 10) (q0 := 0) rfl rfl, fun U hU hW => ⟨rfl, by rw [hU], hN.warm hW, hE.pass hS hFc hW hU, by rw [hU]; exact hPc, va_K.moved hW.alike hK, hDc⟩⟩ rfl rfl hl.1 rfl (lv_room (Nat.le_of_ble_eq_true rfl)) dX11_plans_58 ⟨Nat.le_of_ble_eq_true rfl, Nat.le_of_ble_eq_true rfl⟩) (fun r3465 u H locs hw hP hD hS => ?_)
        obtain ⟨g3466, rfl⟩ : ∃ z, z = u := ⟨_, rfl⟩
        have hP : va_P D vwCl [(ag, kcI cI 10 g3286), (aW, kcJ cJ 4096 g129), (h, oX11 th aw ai ab ac hi re aP ta po en be de fa a5 sp av an ak x141 aW aC ag aT aN aF), (aw, kcI cI 2179 fw), (av, kcI cI 400 g3466), (an, kcI cI 10 g143), (ak, kcI cI 10 g144), (aC, kcI cI 4096 g145)] H := hP
        have hD : va_D A [(ag, kcI cI 10 g3286), (aW, kcJ cJ 4096 g129), (h, oX11 th aw ai ab ac hi re aP ta po en be de fa a5 sp av an ak x141 aW aC ag aT aN aF), (aw, kcI cI 2179 fw), (av, kcI cI 400 g3466), (an, kcI cI 10 g143), (ak, kcI cI 10 g144), (aC, kcI cI 4096 g145)] := hD
        obtain ⟨k3467, hw⟩ := hw
        rcases hw with ⟨rfl, kc3468_0⟩ | ⟨rfl, kc3468_0⟩
        · skip
          refine lv_if_ne (tgt := 70) hx hb dX11_plans_61 (by decide) (fun c3469 => absurd (by decide) c3469) (fun _ => ?_)
          obtain ⟨x3470, ex3470⟩ : ∃ y : Int32, y = y3461 + 1 := ⟨_, rfl⟩
          refine lv_iinc (v := x3470) (lv' := [(4, .int x3470), (3, .int y3284), (2, .int y3285), (0, .ref h), (1, .int 1)]) hx hb dX11_plans_64 hl (k := 0) rfl (by rw [ex3470]; rfl) (by decide) rfl (fun ls hl => ?_)
          have k3471 : Rg x3470 1 12 := rg_add ex3470 k3464 (rg_lit (n := 1) (by decide)) (by decide)
          refine lv_goto (tgt := 52) hx hb dX11_plans_67 (by decide) ?_
          exact ih3463 (x3470, g3466) _ _ _ (by show (12 - (x3470).toInt).toNat < (12 - (y3461).toInt).toNat; exact mu_up ex3470 k3464 k3471 (by decide)) ⟨(ex_next hX52_0 kc3468_0 (ti_add (Y := 1) ex3470 k3464 (rg_lit (n := 1) (by decide)) (by decide) rfl (by decide))), (hF3.trans (kIter_go (kC_eq rfl (kC_eq k3467 (kif_t rfl (kLet_eq (ti_add ex3470 k3464 (rg_lit (n := 1) (by decide)) (by decide) rfl rfl) rfl)))))), (rg_w k3471 (by decide)), hP.sub (ws' := [(ag, kcI cI 10 g3286), (aW, kcJ cJ 4096 g129), (h, oX11 th aw ai ab ac hi re aP ta po en be de fa a5 sp av an ak x141 aW aC ag aT aN aF), (aw, kcI cI 2179 fw), (av, kcI cI 400 g3466), (an, kcI cI 10 g143), (ak, kcI cI 10 g144), (aC, kcI cI 4096 g145)]) [0, 1, 2, 3, 4, 5, 6, 7] rfl, hD.sub (ws' := [(ag, kcI cI 10 g3286), (aW, kcJ cJ 4096 g129), (h, oX11 th aw ai ab ac hi re aP ta po en be de fa a5 sp av an ak x141 aW aC ag aT aN aF), (aw, kcI cI 2179 fw), (av, kcI cI 400 g3466), (an, kcI cI 10 g143), (ak, kcI cI 10 g144), (aC, kcI cI 4096 g145)]) [0, 1, 2, 3, 4, 5, 6, 7] (by decide) rfl, hS, lv_sub (l' := [(4, .int x3470), (3, .int y3284), (2, .int y3285), (0, .ref h), (1, .int 1)]) hl [0, 1, 2, 3, 4] rfl⟩
        · skip
          refine lv_if_ne (tgt := 70) hx hb dX11_plans_61 (by decide) (fun _ => ?_) (fun c3472 => absurd c3472 (by decide))
          refine lv_aload_n hx hb dX11_plans_70 rfl (lv_at hl 3 rfl) ?_
          refine va_get (D := D) (ci := 10) (v := .ref ag) (C := RX11) (T := TX11) (N := 26) hx hb hts iG_X11 hown hK hP 2 rfl rfl 22 (by decide) (hts _ w5_16) (fun _ h9 => h9) rfl dX11_plans_71 ?_
          refine lv_aload_n hx hb dX11_plans_74 rfl (lv_at hl 3 rfl) ?_
          refine va_get (D := D) (ci := 10) (v := .ref an) (C := RX11) (T := TX11) (N := 26) hx hb hts iG_X11 hown hK hP 2 rfl rfl 17 (by decide) (hts _ w5_12) (fun _ h9 => h9) rfl dX11_plans_75 ?_
          refine lv_iload_n hx hb dX11_plans_78 rfl (lv_at hl 1 rfl) ?_
          refine va_iald hx hb hK hP 5 0 rfl rfl (rg_in k3290 (by decide)) dX11_plans_79 ?_
          refine lv_topi (fun x3473 ex3473 => ?_)
          have k3474 : Rg x3473 0 9 := wN_rd k147 ex3473
          refine lv_iload hx hb dX11_plans_80 (lv_at hl 0 rfl) ?_
          refine va_iast hx hb hK hP hD hS 0 0 rfl rfl (rg_in k3474 (by decide)) dX11_plans_82 (fun H locs hP hD hS => ?_)
          have hP : va_P D vwCl [(ag, kcI cI 10 (upd g3286 x3473.toNatClampNeg y3461)), (aW, kcJ cJ 4096 g129), (h, oX11 th aw ai ab ac hi re aP ta po en be de fa a5 sp av an ak x141 aW aC ag aT aN aF), (aw, kcI cI 2179 fw), (av, kcI cI 400 g3466), (an, kcI cI 10 g143), (ak, kcI cI 10 g144), (aC, kcI cI 4096 g145)] H := hP
          have hD : va_D A [(ag, kcI cI 10 (upd g3286 x3473.toNatClampNeg y3461)), (aW, kcJ cJ 4096 g129), (h, oX11 th aw ai ab ac hi re aP ta po en be de fa a5 sp av an ak x141 aW aC ag aT aN aF), (aw, kcI cI 2179 fw), (av, kcI cI 400 g3466), (an, kcI cI 10 g143), (ak, kcI cI 10 g144), (aC, kcI cI 4096 g145)] := hD
          generalize hg3475 : (upd g3286 x3473.toNatClampNeg y3461) = g3475 at hP hD
          refine lv_iload_n hx hb dX11_plans_83 rfl (lv_at hl 2 rfl) ?_
          refine lv_iconst (v := 1) hx hb dX11_plans_84 (by decide) ?_
          refine lv_iload hx hb dX11_plans_85 (lv_at hl 0 rfl) ?_
          refine lv_ishl hx hb dX11_plans_87 ?_
          refine lv_topi (fun x3476 ex3476 => ?_)
          have k3477 : Rg x3476 1 2048 := rg_shl1 11 ex3476 k3464 (by decide)
          refine lv_ior hx hb dX11_plans_88 ?_
          refine lv_topi (fun x3478 ex3478 => ?_)
          have k3479 : Rg x3478 0 4095 := rg_or 12 ex3478 hy3285 k3477 (by decide)
          refine lv_istore_n (lv' := [(2, .int x3478), (4, .int y3461), (3, .int y3284), (0, .ref h), (1, .int 1)]) hx hb dX11_plans_89 rfl hl (by decide) rfl (fun ls hl => ?_)
          obtain ⟨x3480, ex3480⟩ : ∃ y : Int32, y = y3284 + 1 := ⟨_, rfl⟩
          refine lv_iinc (v := x3480) (lv' := [(3, .int x3480), (2, .int x3478), (4, .int y3461), (0, .ref h), (1, .int 1)]) hx hb dX11_plans_90 hl (k := 2) rfl (by rw [ex3480]; rfl) (by decide) rfl (fun ls hl => ?_)
          have k3481 : Rg x3480 1 10 := rg_add ex3480 k3290 (rg_lit (n := 1) (by decide)) (by decide)
          refine lv_goto (tgt := 41) hx hb dX11_plans_93 (by decide) ?_
          exact ih3288 (x3480, x3478, g3475, g3466) _ _ _ (by show (10 - (x3480).toInt).toNat < (10 - (y3284).toInt).toNat; exact mu_up ex3480 k3290 k3481 (by decide)) ⟨(by rw [(or_bit ex3476 ex3478 hy3285 k3464).1, pop_or kc3468_0.1.2 (by have q1 := k3464; unfold Rg at q1; simp only [cN]; omega), hX41_0]; exact (s1_cN (by have q1 := k3290; unfold Rg at q1; omega) (ti_add (Y := 1) ex3480 k3290 (rg_lit (n := 1) (by decide)) (by decide) rfl (by decide))).symm), (lt_cn (by rw [(or_bit ex3476 ex3478 hy3285 k3464).1]; exact Nat.or_lt_two_pow (cn_lt hX41_1 (by have q1 := hy3285; unfold Rg at q1; omega)) (Nat.pow_lt_pow_right (by omega) (lt_of_ex hX52_0 (by have q1 := k3464; unfold Rg at q1; omega))))), (by rw [(or_bit ex3476 ex3478 hy3285 k3464).1]; have q1 : (cF fw (g143 (cN y3284)) (nI (cN y3461))).toInt + (g145 (cN y3285 ||| 2 ^ cN y3461)).toInt = (g145 (cN y3285)).toInt := kc3468_0.2.2; have q2 := kc3468_0.2.1; have q3 := (cF_b (m := g143 (cN y3284)) (s := nI (cN y3461)) H_fw_L).1; omega), (gets_step hX41_3 hg3475 k3464 (cl_of (k := cN x3473) k3474 (by decide) (by simp only [cN]; have q1 := k3474; unfold Rg at q1; omega)) (by rw [ex3473, (cl_of (k := cN y3284) k3290 (by decide) (by simp only [cN]; have q1 := k3290; unfold Rg at q1; omega))]) (s1_cN (by have q1 := k3290; unfold Rg at q1; omega) (ti_add (Y := 1) ex3480 k3290 (rg_lit (n := 1) (by decide)) (by decide) rfl (by decide)))), (by have q1 := (nleI c3289); have q2 := (ti_add (Y := 1) ex3480 k3290 (rg_lit (n := 1) (by decide)) (by decide) rfl (by decide)); omega), (hF2.trans (kIter_go (hF3.trans (kIter_out (kC_eq rfl (kC_eq k3467 (kif_f (by decide) (kLet_eq (ke_ld ex3473) (kLet_eq (ke_st hg3475) (kLet_eq (ke_shl ex3476) (kLet_eq (ke_or ex3478) (kLet_eq (ti_add ex3480 k3290 (rg_lit (n := 1) (by decide)) (by decide) rfl rfl) rfl)))))))))))), (rg_w k3481 (by decide)), k3479, hP.sub (ws' := [(ag, kcI cI 10 g3475), (aW, kcJ cJ 4096 g129), (h, oX11 th aw ai ab ac hi re aP ta po en be de fa a5 sp av an ak x141 aW aC ag aT aN aF), (aw, kcI cI 2179 fw), (av, kcI cI 400 g3466), (an, kcI cI 10 g143), (ak, kcI cI 10 g144), (aC, kcI cI 4096 g145)]) [0, 1, 2, 3, 4, 5, 6, 7] rfl, hD.sub (ws' := [(ag, kcI cI 10 g3475), (aW, kcJ cJ 4096 g129), (h, oX11 th aw ai ab ac hi re aP ta po en be de fa a5 sp av an ak x141 aW aC ag aT aN aF), (aw, kcI cI 2179 fw), (av, kcI cI 400 g3466), (an, kcI cI 10 g143), (ak, kcI cI 10 g144), (aC, kcI cI 4096 g145)]) [0, 1, 2, 3, 4, 5, 6, 7] (by decide) rfl, hS, lv_sub (l' := [(3, .int x3480), (2, .int x3478), (0, .ref h), (1, .int 1)]) hl [0, 1, 3, 4] rfl⟩
    · skip
      have k3482 : Rg x137 0 0 := rg_q1 (eqI c139) k138 (rg_lit (n := 0) (by decide)) (by decide)
      refine lv_iconst (v := 0) hx hb dX11_plans_30 (by decide) ?_
      have hP9 := hP.sub (ws' := [(h, oX11 th aw ai ab ac hi re aP ta po en be de fa a5 sp av an ak x125 aW aC ag aT aN aF), (aw, kcI cI 2179 fw), (av, kcI cI 400 g126), (an, kcI cI 10 g127), (ak, kcI cI 10 g128), (aW, kcJ cJ 4096 g129), (aC, kcI cI 4096 fC), (ag, kcI cI 10 g120)]) [2, 3, 4, 5, 6, 7, 0, 1] rfl
      have hD9 := hD.sub (ws' := [(h, oX11 th aw ai ab ac hi re aP ta po en be de fa a5 sp av an ak x125 aW aC ag aT aN aF), (aw, kcI cI 2179 fw), (av, kcI cI 400 g126), (an, kcI cI 10 g127), (ak, kcI cI 10 g128), (aW, kcJ cJ 4096 g129), (aC, kcI cI 4096 fC), (ag, kcI cI 10 g120)]) [2, 3, 4, 5, 6, 7, 0, 1] (by decide) rfl
      exact W.zret (v := 0) hx hb hr (by decide) (fun t ht hW => ⟨⟨0, (x125, g126, g127, g128, g129, fC, g120), rfl, ⟨k130, k131, k132, H_fC_F, (hF1.trans (kIter_out (kC_eq rfl (kif_t (leI c122) (kC_eq k136 (kC_eq rfl (kC_eq rfl (kC_eq rfl (kC_eq rfl (kLet_eq (ke_cmp ex137) (kif_t (eqI c139) rfl))))))))))), (Or.inl rfl)⟩, by rw [ht]; exact hP9, va_K.moved hW.alike hK, hD9⟩, hS.F ht⟩) hS.2.2 dX11_plans_31
  · skip
    have k3483 : Rg y119 0 9 := rg_l1 (nleI c122) hy119 (rg_lit (n := 10) (by decide)) (by decide)
    refine lv_aload_n hx hb dX11_plans_8 rfl (lv_at hl 1 rfl) ?_
    refine va_get (D := D) (ci := 10) (v := .ref ag) (C := RX11) (T := TX11) (N := 26) hx hb hts iG_X11 hown hK hP 0 rfl rfl 22 (by decide) (hts _ w5_16) (fun _ h9 => h9) rfl dX11_plans_9 ?_
    refine lv_iload_n hx hb dX11_plans_12 rfl (lv_at hl 0 rfl) ?_
    refine lv_iconst (v := (-1)) hx hb dX11_plans_13 (by decide) ?_
    refine va_iast hx hb hK hP hD hS 7 0 rfl rfl (rg_in k3483 (by decide)) dX11_plans_14 (fun H locs hP hD hS => ?_)
    have hP : va_P D vwCl [(h, oX11 th aw ai ab ac hi re aP ta po en be de fa a5 sp av an ak ne aW aC ag aT aN aF), (aw, kcI cI 2179 fw), (av, kcI cI 400 fv), (an, kcI cI 10 fn), (ak, kcI cI 10 fk), (aW, kcJ cJ 4096 fW), (aC, kcI cI 4096 fC), (ag, kcI cI 10 (upd g120 y119.toNatClampNeg (-1)))] H := hP
    have hD : va_D A [(h, oX11 th aw ai ab ac hi re aP ta po en be de fa a5 sp av an ak ne aW aC ag aT aN aF), (aw, kcI cI 2179 fw), (av, kcI cI 400 fv), (an, kcI cI 10 fn), (ak, kcI cI 10 fk), (aW, kcJ cJ 4096 fW), (aC, kcI cI 4096 fC), (ag, kcI cI 10 (upd g120 y119.toNatClampNeg (-1)))] := hD
    generalize hg3484 : (upd g120 y119.toNatClampNeg (-1)) = g3484 at hP hD
    obtain ⟨x3485, ex3485⟩ : ∃ y : Int32, y = y119 + 1 := ⟨_, rfl⟩
    refine lv_iinc (v := x3485) (lv' := [(2, .int x3485), (0, .ref h), (1, .int 1)]) hx hb dX11_plans_15 hl (k := 0) rfl (by rw [ex3485]; rfl) (by decide) rfl (fun ls hl => ?_)
    have k3486 : Rg x3485 1 10 := rg_add ex3485 k3483 (rg_lit (n := 1) (by decide)) (by decide)
    refine lv_goto (tgt := 2) hx hb dX11_plans_18 (by decide) ?_
    exact ih121 (x3485, g3484) _ _ _ (by show (10 - (x3485).toInt).toNat < (10 - (y119).toInt).toNat; exact mu_up ex3485 k3483 k3486 (by decide)) ⟨(hF1.trans (kIter_go (kC_eq rfl (kif_f (xF_le c122) (kLet_eq (ke_st hg3484) (kLet_eq (ti_add ex3485 k3483 (rg_lit (n := 1) (by decide)) (by decide) rfl rfl) rfl)))))), (rg_w k3486 (by decide)), hP.sub (ws' := [(h, oX11 th aw ai ab ac hi re aP ta po en be de fa a5 sp av an ak ne aW aC ag aT aN aF), (aw, kcI cI 2179 fw), (av, kcI cI 400 fv), (an, kcI cI 10 fn), (ak, kcI cI 10 fk), (aW, kcJ cJ 4096 fW), (aC, kcI cI 4096 fC), (ag, kcI cI 10 g3484)]) [0, 1, 2, 3, 4, 5, 6, 7] rfl, hD.sub (ws' := [(h, oX11 th aw ai ab ac hi re aP ta po en be de fa a5 sp av an ak ne aW aC ag aT aN aF), (aw, kcI cI 2179 fw), (av, kcI cI 400 fv), (an, kcI cI 10 fn), (ak, kcI cI 10 fk), (aW, kcJ cJ 4096 fW), (aC, kcI cI 4096 fC), (ag, kcI cI 10 g3484)]) [0, 1, 2, 3, 4, 5, 6, 7] (by decide) rfl, hS, lv_sub (l' := [(2, .int x3485), (0, .ref h), (1, .int 1)]) hl [0, 1, 2] rfl⟩

