def kwX11_plans : List Cond := .code yX11_plans cX11_plans 5 (some .boolean) :: kG
theorem hdX11_plans : yX11_plans.cls ≠ "java/lang/invoke/MethodHandle" ∧ yX11_plans.cls ≠ "java/lang/invoke/VarHandle" ∧ (parseMethodDescriptor yX11_plans.desc).map (fun d => d.parameters.length) = some 1 := by decide +kernel
theorem gX11_plans_X11_allWays : GoodIn kG (wsV RX11 330 RX11 yX11_allWays kwX11_allWays) := gK w40_3 (gK w40_4 (gK w40_5 (gK w0_5 (gK w40_6 gGG))))
theorem gX11_plans_X11_isNext : GoodIn kG (wsV RX11 338 RX11 yX11_isNext kwX11_isNext) := gK w42_17 (gK w42_18 (gK w42_19 (gK w0_5 (gK w42_20 gGG))))
theorem gX11_plans_X11_leastCost : GoodIn kG (wsV RX11 335 RX11 yX11_leastCost kwX11_leastCost) := gK w42_12 (gK w42_13 (gK w42_14 (gK w0_5 (gK w42_15 gGG))))
theorem dX11_plans_0 : decode cX11_plans 0 = .ok (.iconst 0, 1) := by decide +kernel
theorem dX11_plans_1 : decode cX11_plans 1 = .ok (.istore_n 2, 1) := by decide +kernel
theorem dX11_plans_2 : decode cX11_plans 2 = .ok (.iload_n 2, 1) := by decide +kernel
theorem dX11_plans_3 : decode cX11_plans 3 = .ok (.bipush 10, 2) := by decide +kernel
theorem dX11_plans_5 : decode cX11_plans 5 = .ok (.if_icmp .ge 16, 3) := by decide +kernel
theorem dX11_plans_8 : decode cX11_plans 8 = .ok (.aload_n 0, 1) := by decide +kernel
theorem dX11_plans_9 : decode cX11_plans 9 = .ok (.getfield 52, 3) := by decide +kernel
theorem dX11_plans_12 : decode cX11_plans 12 = .ok (.iload_n 2, 1) := by decide +kernel
theorem dX11_plans_13 : decode cX11_plans 13 = .ok (.iconst (-1), 1) := by decide +kernel
theorem dX11_plans_14 : decode cX11_plans 14 = .ok (.iastore, 1) := by decide +kernel
theorem dX11_plans_15 : decode cX11_plans 15 = .ok (.iinc 2 1, 3) := by decide +kernel
theorem dX11_plans_18 : decode cX11_plans 18 = .ok (.goto (-16), 3) := by decide +kernel
theorem dX11_plans_21 : decode cX11_plans 21 = .ok (.aload_n 0, 1) := by decide +kernel
theorem dX11_plans_22 : decode cX11_plans 22 = .ok (.invokevirtual 330, 3) := by decide +kernel
theorem dX11_plans_25 : decode cX11_plans 25 = .ok (.lconst 0, 1) := by decide +kernel
theorem dX11_plans_26 : decode cX11_plans 26 = .ok (.lcmp, 1) := by decide +kernel
theorem dX11_plans_27 : decode cX11_plans 27 = .ok (.ifCond .ne 5, 3) := by decide +kernel
theorem dX11_plans_30 : decode cX11_plans 30 = .ok (.iconst 0, 1) := by decide +kernel
theorem dX11_plans_31 : decode cX11_plans 31 = .ok (.ireturn, 1) := by decide +kernel
theorem dX11_plans_32 : decode cX11_plans 32 = .ok (.aload_n 0, 1) := by decide +kernel
theorem dX11_plans_33 : decode cX11_plans 33 = .ok (.invokevirtual 335, 3) := by decide +kernel
theorem dX11_plans_36 : decode cX11_plans 36 = .ok (.pop, 1) := by decide +kernel
theorem dX11_plans_37 : decode cX11_plans 37 = .ok (.iconst 0, 1) := by decide +kernel
theorem dX11_plans_38 : decode cX11_plans 38 = .ok (.istore_n 2, 1) := by decide +kernel
theorem dX11_plans_39 : decode cX11_plans 39 = .ok (.iconst 0, 1) := by decide +kernel
theorem dX11_plans_40 : decode cX11_plans 40 = .ok (.istore_n 3, 1) := by decide +kernel
theorem dX11_plans_41 : decode cX11_plans 41 = .ok (.iload_n 3, 1) := by decide +kernel
theorem dX11_plans_42 : decode cX11_plans 42 = .ok (.aload_n 0, 1) := by decide +kernel
theorem dX11_plans_43 : decode cX11_plans 43 = .ok (.getfield 316, 3) := by decide +kernel
theorem dX11_plans_46 : decode cX11_plans 46 = .ok (.if_icmp .ge 50, 3) := by decide +kernel
theorem dX11_plans_49 : decode cX11_plans 49 = .ok (.iconst 0, 1) := by decide +kernel
theorem dX11_plans_50 : decode cX11_plans 50 = .ok (.istore 4, 2) := by decide +kernel
theorem dX11_plans_52 : decode cX11_plans 52 = .ok (.aload_n 0, 1) := by decide +kernel
theorem dX11_plans_53 : decode cX11_plans 53 = .ok (.iload_n 3, 1) := by decide +kernel
theorem dX11_plans_54 : decode cX11_plans 54 = .ok (.iload 4, 2) := by decide +kernel
theorem dX11_plans_56 : decode cX11_plans 56 = .ok (.iload_n 2, 1) := by decide +kernel
theorem dX11_plans_57 : decode cX11_plans 57 = .ok (.iload_n 1, 1) := by decide +kernel
theorem dX11_plans_58 : decode cX11_plans 58 = .ok (.invokevirtual 338, 3) := by decide +kernel
theorem dX11_plans_61 : decode cX11_plans 61 = .ok (.ifCond .ne 9, 3) := by decide +kernel
theorem dX11_plans_64 : decode cX11_plans 64 = .ok (.iinc 4 1, 3) := by decide +kernel
theorem dX11_plans_67 : decode cX11_plans 67 = .ok (.goto (-15), 3) := by decide +kernel
theorem dX11_plans_70 : decode cX11_plans 70 = .ok (.aload_n 0, 1) := by decide +kernel
theorem dX11_plans_71 : decode cX11_plans 71 = .ok (.getfield 52, 3) := by decide +kernel
theorem dX11_plans_74 : decode cX11_plans 74 = .ok (.aload_n 0, 1) := by decide +kernel
theorem dX11_plans_75 : decode cX11_plans 75 = .ok (.getfield 39, 3) := by decide +kernel
theorem dX11_plans_78 : decode cX11_plans 78 = .ok (.iload_n 3, 1) := by decide +kernel
theorem dX11_plans_79 : decode cX11_plans 79 = .ok (.iaload, 1) := by decide +kernel
theorem dX11_plans_80 : decode cX11_plans 80 = .ok (.iload 4, 2) := by decide +kernel
theorem dX11_plans_82 : decode cX11_plans 82 = .ok (.iastore, 1) := by decide +kernel
theorem dX11_plans_83 : decode cX11_plans 83 = .ok (.iload_n 2, 1) := by decide +kernel
theorem dX11_plans_84 : decode cX11_plans 84 = .ok (.iconst 1, 1) := by decide +kernel
theorem dX11_plans_85 : decode cX11_plans 85 = .ok (.iload 4, 2) := by decide +kernel
theorem dX11_plans_87 : decode cX11_plans 87 = .ok (.ishl, 1) := by decide +kernel
theorem dX11_plans_88 : decode cX11_plans 88 = .ok (.ior, 1) := by decide +kernel
theorem dX11_plans_89 : decode cX11_plans 89 = .ok (.istore_n 2, 1) := by decide +kernel
theorem dX11_plans_90 : decode cX11_plans 90 = .ok (.iinc 3 1, 3) := by decide +kernel
theorem dX11_plans_93 : decode cX11_plans 93 = .ok (.goto (-52), 3) := by decide +kernel
theorem dX11_plans_96 : decode cX11_plans 96 = .ok (.iconst 1, 1) := by decide +kernel
theorem dX11_plans_97 : decode cX11_plans 97 = .ok (.ireturn, 1) := by decide +kernel
set_option maxHeartbeats 4000000 in
set_option maxRecDepth 100000 in
/-- reference: plans -/
theorem r_plans0 (l : Launch) (D : va_G) (cI cJ cB cC : ClassId) (h : Nat) (th : Int32) (aw : Nat) (ai : Nat) (ab : Nat) (ac : Nat) (hi : Int32) (re : Int32) (aP : Nat) (ta : Int32) (po : Int32) (en : Int32) (be : Int32) (de : Int32) (fa : Int32) (a5 : Nat) (sp : Int32) (av : Nat) (an : Nat) (ak : Nat) (ne : Int32) (aW : Nat) (aC : Nat) (ag : Nat) (aT : Nat) (aN : Nat) (aF : Nat) (fw : Nat → Int32) (fv : Nat → Int32) (fn : Nat → Int32) (fk : Nat → Int32) (fW : Nat → Int64) (fC : Nat → Int32) (fg : Nat → Int32) (sz : Nat) (H_fw_W : wW fw) (H_fw_L : wL fw) (H_fn_N : wN fn) (H_fk_K : wK fk) (H_fC_F : wF fC) : Met l yX11_plans kwX11_plans ({ frames := 9, cells := 0, slots := 0, locals := 211 } : Room) (kPre D (kT cI cJ cB cC) sz [(h, oX11 th aw ai ab ac hi re aP ta po en be de fa a5 sp av an ak ne aW aC ag aT aN aF), (aw, .inl (cI, 2179, .inl fw)), (av, .inl (cI, 400, .inl fv)), (an, .inl (cI, 10, .inl fn)), (ak, .inl (cI, 10, .inl fk)), (aW, .inl (cJ, 4096, .inr (.inl fW))), (aC, .inl (cI, 4096, .inl fC)), (ag, .inl (cI, 10, .inl fg))] [.ref h, .int 0]) (va_Qi (fun (r : Int32) (uu : Int32 × (Nat → Int32) × (Nat → Int32) × (Nat → Int32) × (Nat → Int64) × (Nat → Int32) × (Nat → Int32)) => match uu with | (n0_, f1_, f2_, f3_, f4_, f5_, f6_) => Rg n0_ 0 10 ∧ wN f2_ ∧ wK f3_ ∧ wF f5_ ∧ ((r = 0) ∨ (r = 1 ∧ ∀ j : Nat, j < cN n0_ → Rg (f6_ (cN (f2_ j))) 0 11))) (fun (uu : Int32 × (Nat → Int32) × (Nat → Int32) × (Nat → Int32) × (Nat → Int64) × (Nat → Int32) × (Nat → Int32)) (t : State) => match uu with | (n0_, f1_, f2_, f3_, f4_, f5_, f6_) => kB D (kT cI cJ cB cC) (va_A [(h, oX11 th aw ai ab ac hi re aP ta po en be de fa a5 sp av an ak ne aW aC ag aT aN aF), (aw, .inl (cI, 2179, .inl fw)), (av, .inl (cI, 400, .inl fv)), (an, .inl (cI, 10, .inl fn)), (ak, .inl (cI, 10, .inl fk)), (aW, .inl (cJ, 4096, .inr (.inl fW))), (aC, .inl (cI, 4096, .inl fC)), (ag, .inl (cI, 10, .inl fg))] sz) [(h, oX11 th aw ai ab ac hi re aP ta po en be de fa a5 sp av an ak n0_ aW aC ag aT aN aF), (aw, .inl (cI, 2179, .inl fw)), (av, .inl (cI, 400, .inl f1_)), (an, .inl (cI, 10, .inl f2_)), (ak, .inl (cI, 10, .inl f3_)), (aW, .inl (cJ, 4096, .inr (.inl f4_))), (aC, .inl (cI, 4096, .inl f5_)), (ag, .inl (cI, 10, .inl f6_))] t) (va_A [(h, oX11 th aw ai ab ac hi re aP ta po en be de fa a5 sp av an ak ne aW aC ag aT aN aF), (aw, .inl (cI, 2179, .inl fw)), (av, .inl (cI, 400, .inl fv)), (an, .inl (cI, 10, .inl fn)), (ak, .inl (cI, 10, .inl fk)), (aW, .inl (cJ, 4096, .inr (.inl fW))), (aC, .inl (cI, 4096, .inl fC)), (ag, .inl (cI, 10, .inl fg))] sz)) 0 0 (va_A [(h, oX11 th aw ai ab ac hi re aP ta po en be de fa a5 sp av an ak ne aW aC ag aT aN aF), (aw, .inl (cI, 2179, .inl fw)), (av, .inl (cI, 400, .inl fv)), (an, .inl (cI, 10, .inl fn)), (ak, .inl (cI, 10, .inl fk)), (aW, .inl (cJ, 4096, .inr (.inl fW))), (aC, .inl (cI, 4096, .inl fC)), (ag, .inl (cI, 10, .inl fg))] sz) := by
  refine Met.ofW (cc := cX11_plans) (maxL := 5) (ret := (some .boolean)) (by decide) rfl ?_
  intro p e s m args below meth c s₁ B hml hv
  obtain ⟨rfl, hsz, hN, hE, hP, hK, hD0⟩ := hv
  have hx := B.exec
  have hb := B.bytes
  have hr := B.returns
  have hts := fun (w : Cond) (h : w ∈ kG) => atoms_spec (ws := kwX11_plans) B.pre w (List.mem_cons_of_mem _ h)
  have hown : s.vm.findClass RX11 = some m.cls := findClass_of_methodNamed B.named
  subst hsz
  have hD := hD0.self (sz := s.heap.size)
  generalize hAe : va_A [(h, oX11 th aw ai ab ac hi re aP ta po en be de fa a5 sp av an ak ne aW aC ag aT aN aF), (aw, .inl (cI, 2179, .inl fw)), (av, .inl (cI, 400, .inl fv)), (an, .inl (cI, 10, .inl fn)), (ak, .inl (cI, 10, .inl fk)), (aW, .inl (cJ, 4096, .inr (.inl fW))), (aC, .inl (cI, 4096, .inl fC)), (ag, .inl (cI, 10, .inl fg))] s.heap.size = A at hD hE ⊢
  have hA : ∀ q : Nat, s.heap.size ≤ q → A q := fun q h => by rw [← hAe]; exact Or.inr h
  have hl := lv_entry ([.ref h, .int 0]) (n := 5) (Nat.le_of_ble_eq_true rfl)
  rw [lg_entry_eq]
  generalize (lg_sl ([.ref h, .int 0]) ++ List.replicate (5 - (lg_sl ([.ref h, .int 0])).length) Slot.unset).toArray = ls at hl ⊢
  have hl : lv_has ls 5 [(0, .ref h), (1, .int 0)] := hl
  obtain ⟨H, hH0⟩ : ∃ H, H = s.heap := ⟨_, rfl⟩
  have hS : va_S A s.heap H [] := by rw [hH0]; exact va_S.rf
  have hP : va_P D vwCl [(h, oX11 th aw ai ab ac hi re aP ta po en be de fa a5 sp av an ak ne aW aC ag aT aN aF), (aw, .inl (cI, 2179, .inl fw)), (av, .inl (cI, 400, .inl fv)), (an, .inl (cI, 10, .inl fn)), (ak, .inl (cI, 10, .inl fk)), (aW, .inl (cJ, 4096, .inr (.inl fW))), (aC, .inl (cI, 4096, .inl fC)), (ag, .inl (cI, 10, .inl fg))] H := by rw [hH0]; exact hP
  refine kHeap hH0 ?_
  clear hH0
  refine lv_iconst (v := 0) hx hb dX11_plans_0 (by decide) ?_
  refine lv_istore_n (lv' := [(2, .int 0), (0, .ref h), (1, .int 0)]) hx hb dX11_plans_1 rfl hl (by decide) rfl (fun ls hl => ?_)
  refine k_loop (hd := 2) (fun (u : Int32 × (Nat → Int32)) => match u with | (y119, g120) => (10 - (y119).toInt).toNat) (fun (u : Int32 × (Nat → Int32)) (H : Heap) (locs : List Loc) (ls : Array Slot) => match u with | (y119, g120) => Rg y119 0 10 ∧ va_P D vwCl [(h, oX11 th aw ai ab ac hi re aP ta po en be de fa a5 sp av an ak ne aW aC ag aT aN aF), (aw, .inl (cI, 2179, .inl fw)), (av, .inl (cI, 400, .inl fv)), (an, .inl (cI, 10, .inl fn)), (ak, .inl (cI, 10, .inl fk)), (aW, .inl (cJ, 4096, .inr (.inl fW))), (aC, .inl (cI, 4096, .inl fC)), (ag, .inl (cI, 10, .inl g120))] H ∧ va_D A [(h, oX11 th aw ai ab ac hi re aP ta po en be de fa a5 sp av an ak ne aW aC ag aT aN aF), (aw, .inl (cI, 2179, .inl fw)), (av, .inl (cI, 400, .inl fv)), (an, .inl (cI, 10, .inl fn)), (ak, .inl (cI, 10, .inl fk)), (aW, .inl (cJ, 4096, .inr (.inl fW))), (aC, .inl (cI, 4096, .inl fC)), (ag, .inl (cI, 10, .inl g120))] ∧ va_S A s.heap H locs ∧ lv_has ls 5 [(2, .int y119), (0, .ref h), (1, .int 0)]) ((0 : Int32), fg) ⟨(rg_w (rg_lit (n := 0) (by decide)) (by decide)), hP.sub (ws' := [(h, oX11 th aw ai ab ac hi re aP ta po en be de fa a5 sp av an ak ne aW aC ag aT aN aF), (aw, .inl (cI, 2179, .inl fw)), (av, .inl (cI, 400, .inl fv)), (an, .inl (cI, 10, .inl fn)), (ak, .inl (cI, 10, .inl fk)), (aW, .inl (cJ, 4096, .inr (.inl fW))), (aC, .inl (cI, 4096, .inl fC)), (ag, .inl (cI, 10, .inl fg))]) [0, 1, 2, 3, 4, 5, 6, 7] rfl, hD.sub (ws' := [(h, oX11 th aw ai ab ac hi re aP ta po en be de fa a5 sp av an ak ne aW aC ag aT aN aF), (aw, .inl (cI, 2179, .inl fw)), (av, .inl (cI, 400, .inl fv)), (an, .inl (cI, 10, .inl fn)), (ak, .inl (cI, 10, .inl fk)), (aW, .inl (cJ, 4096, .inr (.inl fW))), (aC, .inl (cI, 4096, .inl fC)), (ag, .inl (cI, 10, .inl fg))]) [0, 1, 2, 3, 4, 5, 6, 7] (by decide) rfl, hS, lv_sub (l' := [(2, .int 0), (0, .ref h), (1, .int 0)]) hl [0, 1, 2] rfl⟩ (fun u H locs ls hI ih121 => ?_)
  clear hP hD hS hl
  obtain ⟨y119, g120⟩ := u
  obtain ⟨hy119, hP, hD, hS, hl⟩ := hI
  have hP : va_P D vwCl [(h, oX11 th aw ai ab ac hi re aP ta po en be de fa a5 sp av an ak ne aW aC ag aT aN aF), (aw, .inl (cI, 2179, .inl fw)), (av, .inl (cI, 400, .inl fv)), (an, .inl (cI, 10, .inl fn)), (ak, .inl (cI, 10, .inl fk)), (aW, .inl (cJ, 4096, .inr (.inl fW))), (aC, .inl (cI, 4096, .inl fC)), (ag, .inl (cI, 10, .inl g120))] H := hP
  have hD : va_D A [(h, oX11 th aw ai ab ac hi re aP ta po en be de fa a5 sp av an ak ne aW aC ag aT aN aF), (aw, .inl (cI, 2179, .inl fw)), (av, .inl (cI, 400, .inl fv)), (an, .inl (cI, 10, .inl fn)), (ak, .inl (cI, 10, .inl fk)), (aW, .inl (cJ, 4096, .inr (.inl fW))), (aC, .inl (cI, 4096, .inl fC)), (ag, .inl (cI, 10, .inl g120))] := hD
  have hl : lv_has ls 5 [(2, .int y119), (0, .ref h), (1, .int 0)] := hl
  refine lv_iload_n hx hb dX11_plans_2 rfl (lv_at hl 0 rfl) ?_
  refine lv_bipush (v := 10) hx hb dX11_plans_3 (by decide) ?_
  refine lv_icmp_ge (tgt := 21) hx hb dX11_plans_5 (by decide) (fun c122 => ?_) (fun c122 => ?_)
  · skip
    have k123 : Rg y119 10 10 := rg_e2 (leI c122) (rg_lit (n := 10) (by decide)) hy119 (by decide)
    refine lv_aload_n hx hb dX11_plans_21 rfl (lv_at hl 1 rfl) ?_
    refine kcalll (wc := [(h, oX11 th aw ai ab ac hi re aP ta po en be de fa a5 sp av an ak ne aW aC ag aT aN aF), (aw, .inl (cI, 2179, .inl fw)), (av, .inl (cI, 400, .inl fv)), (an, .inl (cI, 10, .inl fn)), (ak, .inl (cI, 10, .inl fk)), (aW, .inl (cJ, 4096, .inr (.inl fW)))]) (wr := [(aC, .inl (cI, 4096, .inl fC)), (ag, .inl (cI, 10, .inl g120))]) hP hD hS hA [0, 1, 2, 3, 4, 5] [6, 7] rfl rfl (by decide) (by decide) (by decide) (fun hPc hDc hFc => va_runV (As := []) (rest := []) ⟨hx, hb, hml, hown, hts⟩ (r_allWaysx l D cI cJ cB cC h th aw ai ab ac hi re aP ta po en be de fa a5 sp av an ak ne aW aC ag aT aN aF fw fv fn fk fW H.size H_fw_W H_fw_L H_fn_N H_fk_K) (cwV 0 hts gX11_plans_X11_allWays rfl rfl rfl ⟨rfl, hdX11_allWays⟩ ⟨Nat.le_of_ble_eq_true rfl, Nat.le_of_ble_eq_true rfl⟩) ⟨kBlind, va_recv hK hPc (ci := 10) (q0 := 0) rfl rfl, fun U hU hW => ⟨rfl, by rw [hU], hN.warm hW, hE.pass hS hFc hW hU, by rw [hU]; exact hPc, va_K.moved hW.alike hK, hDc⟩⟩ rfl rfl hl.1 rfl (lv_room (Nat.le_of_ble_eq_true rfl)) dX11_plans_22 ⟨Nat.le_of_ble_eq_true rfl, Nat.le_of_ble_eq_true rfl⟩) (fun r124 u H locs hw hP hD hS => ?_)
    obtain ⟨x125, g126, g127, g128, g129⟩ := u
    have hP : va_P D vwCl [(aC, .inl (cI, 4096, .inl fC)), (ag, .inl (cI, 10, .inl g120)), (h, oX11 th aw ai ab ac hi re aP ta po en be de fa a5 sp av an ak x125 aW aC ag aT aN aF), (aw, .inl (cI, 2179, .inl fw)), (av, .inl (cI, 400, .inl g126)), (an, .inl (cI, 10, .inl g127)), (ak, .inl (cI, 10, .inl g128)), (aW, .inl (cJ, 4096, .inr (.inl g129)))] H := hP
    have hD : va_D A [(aC, .inl (cI, 4096, .inl fC)), (ag, .inl (cI, 10, .inl g120)), (h, oX11 th aw ai ab ac hi re aP ta po en be de fa a5 sp av an ak x125 aW aC ag aT aN aF), (aw, .inl (cI, 2179, .inl fw)), (av, .inl (cI, 400, .inl g126)), (an, .inl (cI, 10, .inl g127)), (ak, .inl (cI, 10, .inl g128)), (aW, .inl (cJ, 4096, .inr (.inl g129)))] := hD
    obtain ⟨k130, k131, k132, k133, k134, k135⟩ := hw
    refine lv_lconst (v := 0) hx hb dX11_plans_25 (by decide) ?_
    refine W.lcmp hx hb dX11_plans_26 ?_
    refine lv_topi (fun x136 ex136 => ?_)
    have k137 : Rg x136 (-1) 1 := rg_cmp ex136
    refine lv_if_ne (tgt := 32) hx hb dX11_plans_27 (by decide) (fun c138 => ?_) (fun c138 => ?_)
    · skip
      refine lv_aload_n hx hb dX11_plans_32 rfl (lv_at hl 1 rfl) ?_
      refine kcalli (wc := [(h, oX11 th aw ai ab ac hi re aP ta po en be de fa a5 sp av an ak x125 aW aC ag aT aN aF), (aw, .inl (cI, 2179, .inl fw)), (av, .inl (cI, 400, .inl g126)), (an, .inl (cI, 10, .inl g127)), (ak, .inl (cI, 10, .inl g128)), (aC, .inl (cI, 4096, .inl fC))]) (wr := [(ag, .inl (cI, 10, .inl g120)), (aW, .inl (cJ, 4096, .inr (.inl g129)))]) hP hD hS hA [2, 3, 4, 5, 6, 0] [1, 7] rfl rfl (by decide) (by decide) (by decide) (fun hPc hDc hFc => va_runV (As := []) (rest := []) ⟨hx, hb, hml, hown, hts⟩ (r_leastCostx l D cI cJ cB cC h th aw ai ab ac hi re aP ta po en be de fa a5 sp av an ak x125 aW aC ag aT aN aF fw g126 g127 g128 fC H.size H_fw_W H_fw_L k131 k132 H_fC_F) (cwV 0 hts gX11_plans_X11_leastCost rfl rfl rfl ⟨rfl, hdX11_leastCost⟩ ⟨Nat.le_of_ble_eq_true rfl, Nat.le_of_ble_eq_true rfl⟩) ⟨kBlind, va_recv hK hPc (ci := 10) (q0 := 0) rfl rfl, fun U hU hW => ⟨rfl, by rw [hU], hN.warm hW, hE.pass hS hFc hW hU, by rw [hU]; exact hPc, va_K.moved hW.alike hK, hDc⟩⟩ rfl rfl hl.1 rfl (lv_room (Nat.le_of_ble_eq_true rfl)) dX11_plans_33 ⟨Nat.le_of_ble_eq_true rfl, Nat.le_of_ble_eq_true rfl⟩) (fun r139 u H locs hw hP hD hS => ?_)
      obtain ⟨x140, g141, g142, g143, g144⟩ := u
      have hP : va_P D vwCl [(ag, .inl (cI, 10, .inl g120)), (aW, .inl (cJ, 4096, .inr (.inl g129))), (h, oX11 th aw ai ab ac hi re aP ta po en be de fa a5 sp av an ak x140 aW aC ag aT aN aF), (aw, .inl (cI, 2179, .inl fw)), (av, .inl (cI, 400, .inl g141)), (an, .inl (cI, 10, .inl g142)), (ak, .inl (cI, 10, .inl g143)), (aC, .inl (cI, 4096, .inl g144))] H := hP
      have hD : va_D A [(ag, .inl (cI, 10, .inl g120)), (aW, .inl (cJ, 4096, .inr (.inl g129))), (h, oX11 th aw ai ab ac hi re aP ta po en be de fa a5 sp av an ak x140 aW aC ag aT aN aF), (aw, .inl (cI, 2179, .inl fw)), (av, .inl (cI, 400, .inl g141)), (an, .inl (cI, 10, .inl g142)), (ak, .inl (cI, 10, .inl g143)), (aC, .inl (cI, 4096, .inl g144))] := hD
      obtain ⟨k145, k146, k147, k148, k149, k150, k151⟩ := hw
      refine lv_pop hx hb dX11_plans_36 rfl ?_
      have hsm := lk_same k134 k151
      have hTW : tW g129 g143 (cN x140) (cN (fw 1)) 0 := by rw [← cn_eq hsm.1]; exact tW_congr k133 (fun j hj => (hsm.2 j hj).2)
      have hW0 : ¬ (g129 0).toInt = 0 := by rw [← k135]; exact cmp_nz ex136 c138
      have hsh9 : cN (fw 1) ≤ 12 := cn_to (H_fw_W : wW fw).1.2.1 (by decide)
      refine lv_iconst (v := 0) hx hb dX11_plans_37 (by decide) ?_
      refine lv_istore_n (lv' := [(2, .int 0), (0, .ref h), (1, .int 0)]) hx hb dX11_plans_38 rfl hl (by decide) rfl (fun ls hl => ?_)
      refine lv_iconst (v := 0) hx hb dX11_plans_39 (by decide) ?_
      refine lv_istore_n (lv' := [(3, .int 0), (2, .int 0), (0, .ref h), (1, .int 0)]) hx hb dX11_plans_40 rfl hl (by decide) rfl (fun ls hl => ?_)
      refine k_loop (hd := 41) (fun (u : Int32 × Int32 × (Nat → Int32)) => match u with | (y2467, y2468, g2469) => (10 - (y2467).toInt).toNat) (fun (u : Int32 × Int32 × (Nat → Int32)) (H : Heap) (locs : List Loc) (ls : Array Slot) => match u with | (y2467, y2468, g2469) => (pop (cN y2468) = cN y2467) ∧ ((y2468 : Int32).toInt < ((2 ^ cN (fw 1) : Nat) : Int)) ∧ (¬ (g129 (cN y2468)).toInt = 0) ∧ (∀ j : Nat, j < cN y2467 → Rg (g2469 (cN (g142 j))) 0 11) ∧ ((y2467 : Int32).toInt ≤ (x140 : Int32).toInt) ∧ Rg y2467 0 10 ∧ Rg y2468 0 4095 ∧ va_P D vwCl [(ag, .inl (cI, 10, .inl g2469)), (aW, .inl (cJ, 4096, .inr (.inl g129))), (h, oX11 th aw ai ab ac hi re aP ta po en be de fa a5 sp av an ak x140 aW aC ag aT aN aF), (aw, .inl (cI, 2179, .inl fw)), (av, .inl (cI, 400, .inl g141)), (an, .inl (cI, 10, .inl g142)), (ak, .inl (cI, 10, .inl g143)), (aC, .inl (cI, 4096, .inl g144))] H ∧ va_D A [(ag, .inl (cI, 10, .inl g2469)), (aW, .inl (cJ, 4096, .inr (.inl g129))), (h, oX11 th aw ai ab ac hi re aP ta po en be de fa a5 sp av an ak x140 aW aC ag aT aN aF), (aw, .inl (cI, 2179, .inl fw)), (av, .inl (cI, 400, .inl g141)), (an, .inl (cI, 10, .inl g142)), (ak, .inl (cI, 10, .inl g143)), (aC, .inl (cI, 4096, .inl g144))] ∧ va_S A s.heap H locs ∧ lv_has ls 5 [(3, .int y2467), (2, .int y2468), (0, .ref h), (1, .int 0)]) ((0 : Int32), (0 : Int32), g120) ⟨(by have q0 : cN (0 : Int32) = 0 := (by decide); rw [q0]; exact pop_0), (z_lt2 _), (by have q0 : cN (0 : Int32) = 0 := (by decide); rw [q0]; exact hW0), (fun j hj => by have q0 : cN (0 : Int32) = 0 := (by decide); omega), (by have q1 := k145; unfold Rg at q1; have q2 : (0 : Int32).toInt = 0 := (by decide); omega), (rg_w (rg_lit (n := 0) (by decide)) (by decide)), (rg_w (rg_lit (n := 0) (by decide)) (by decide)), hP.sub (ws' := [(ag, .inl (cI, 10, .inl g120)), (aW, .inl (cJ, 4096, .inr (.inl g129))), (h, oX11 th aw ai ab ac hi re aP ta po en be de fa a5 sp av an ak x140 aW aC ag aT aN aF), (aw, .inl (cI, 2179, .inl fw)), (av, .inl (cI, 400, .inl g141)), (an, .inl (cI, 10, .inl g142)), (ak, .inl (cI, 10, .inl g143)), (aC, .inl (cI, 4096, .inl g144))]) [0, 1, 2, 3, 4, 5, 6, 7] rfl, hD.sub (ws' := [(ag, .inl (cI, 10, .inl g120)), (aW, .inl (cJ, 4096, .inr (.inl g129))), (h, oX11 th aw ai ab ac hi re aP ta po en be de fa a5 sp av an ak x140 aW aC ag aT aN aF), (aw, .inl (cI, 2179, .inl fw)), (av, .inl (cI, 400, .inl g141)), (an, .inl (cI, 10, .inl g142)), (ak, .inl (cI, 10, .inl g143)), (aC, .inl (cI, 4096, .inl g144))]) [0, 1, 2, 3, 4, 5, 6, 7] (by decide) rfl, hS, lv_sub (l' := [(3, .int 0), (2, .int 0), (0, .ref h), (1, .int 0)]) hl [0, 1, 2, 3] rfl⟩ (fun u H locs ls hI ih2470 => ?_)
      clear hP hD hS hl
      obtain ⟨y2467, y2468, g2469⟩ := u
      obtain ⟨hX41_0, hX41_1, hX41_2, hX41_3, hX41_4, hy2467, hy2468, hP, hD, hS, hl⟩ := hI
      have hP : va_P D vwCl [(ag, .inl (cI, 10, .inl g2469)), (aW, .inl (cJ, 4096, .inr (.inl g129))), (h, oX11 th aw ai ab ac hi re aP ta po en be de fa a5 sp av an ak x140 aW aC ag aT aN aF), (aw, .inl (cI, 2179, .inl fw)), (av, .inl (cI, 400, .inl g141)), (an, .inl (cI, 10, .inl g142)), (ak, .inl (cI, 10, .inl g143)), (aC, .inl (cI, 4096, .inl g144))] H := hP
      have hD : va_D A [(ag, .inl (cI, 10, .inl g2469)), (aW, .inl (cJ, 4096, .inr (.inl g129))), (h, oX11 th aw ai ab ac hi re aP ta po en be de fa a5 sp av an ak x140 aW aC ag aT aN aF), (aw, .inl (cI, 2179, .inl fw)), (av, .inl (cI, 400, .inl g141)), (an, .inl (cI, 10, .inl g142)), (ak, .inl (cI, 10, .inl g143)), (aC, .inl (cI, 4096, .inl g144))] := hD
      have hl : lv_has ls 5 [(3, .int y2467), (2, .int y2468), (0, .ref h), (1, .int 0)] := hl
      refine lv_iload_n hx hb dX11_plans_41 rfl (lv_at hl 0 rfl) ?_
      refine lv_aload_n hx hb dX11_plans_42 rfl (lv_at hl 2 rfl) ?_
      refine va_get (D := D) (ci := 10) (v := .int x140) (C := RX11) (T := TX11) (N := 26) hx hb hts iG_X11 hown hK hP 2 rfl rfl 19 (by decide) (hts _ w40_7) (fun _ h9 => h9) rfl dX11_plans_43 ?_
      refine lv_icmp_ge (tgt := 96) hx hb dX11_plans_46 (by decide) (fun c2471 => ?_) (fun c2471 => ?_)
      · skip
        refine lv_iconst (v := 1) hx hb dX11_plans_96 (by decide) ?_
        have hP9 := hP.sub (ws' := [(h, oX11 th aw ai ab ac hi re aP ta po en be de fa a5 sp av an ak x140 aW aC ag aT aN aF), (aw, .inl (cI, 2179, .inl fw)), (av, .inl (cI, 400, .inl g141)), (an, .inl (cI, 10, .inl g142)), (ak, .inl (cI, 10, .inl g143)), (aW, .inl (cJ, 4096, .inr (.inl g129))), (aC, .inl (cI, 4096, .inl g144)), (ag, .inl (cI, 10, .inl g2469))]) [2, 3, 4, 5, 6, 1, 7, 0] rfl
        have hD9 := hD.sub (ws' := [(h, oX11 th aw ai ab ac hi re aP ta po en be de fa a5 sp av an ak x140 aW aC ag aT aN aF), (aw, .inl (cI, 2179, .inl fw)), (av, .inl (cI, 400, .inl g141)), (an, .inl (cI, 10, .inl g142)), (ak, .inl (cI, 10, .inl g143)), (aW, .inl (cJ, 4096, .inr (.inl g129))), (aC, .inl (cI, 4096, .inl g144)), (ag, .inl (cI, 10, .inl g2469))]) [2, 3, 4, 5, 6, 1, 7, 0] (by decide) rfl
        exact W.zret (v := 1) hx hb hr (by decide) (fun t ht hW => ⟨⟨1, (x140, g141, g142, g143, g129, g144, g2469), rfl, ⟨k145, k146, k147, k148, (Or.inr ⟨rfl, (by have q1 := hX41_4; have q2 := (leI c2471); have q3 : cN y2467 = cN x140 := cn_eq (by omega); rw [← q3]; exact hX41_3)⟩)⟩, by rw [ht]; exact hP9, va_K.moved hW.alike hK, hD9⟩, hS.F ht⟩) hS.2.2 dX11_plans_97
      · skip
        have k2472 : Rg y2467 0 9 := rg_l1 (nleI c2471) hy2467 k145 (by decide)
        have k2473 : Rg x140 1 10 := rg_l2 (nleI c2471) hy2467 k145 (by decide)
        refine lv_iconst (v := 0) hx hb dX11_plans_49 (by decide) ?_
        refine lv_istore (lv' := [(4, .int 0), (3, .int y2467), (2, .int y2468), (0, .ref h), (1, .int 0)]) hx hb dX11_plans_50 hl (by decide) rfl (fun ls hl => ?_)
        refine k_loop (hd := 52) (fun (y2596 : Int32) => (12 - (y2596).toInt).toNat) (fun (y2596 : Int32) (H : Heap) (locs : List Loc) (ls : Array Slot) => (∃ s9 : Nat, (y2596 : Int32).toInt ≤ (s9 : Int) ∧ s9 < cN (fw 1) ∧ nxF g129 g143 (cN y2467) (cN y2468) s9) ∧ Rg y2596 0 12 ∧ va_P D vwCl [(ag, .inl (cI, 10, .inl g2469)), (aW, .inl (cJ, 4096, .inr (.inl g129))), (h, oX11 th aw ai ab ac hi re aP ta po en be de fa a5 sp av an ak x140 aW aC ag aT aN aF), (aw, .inl (cI, 2179, .inl fw)), (av, .inl (cI, 400, .inl g141)), (an, .inl (cI, 10, .inl g142)), (ak, .inl (cI, 10, .inl g143)), (aC, .inl (cI, 4096, .inl g144))] H ∧ va_D A [(ag, .inl (cI, 10, .inl g2469)), (aW, .inl (cJ, 4096, .inr (.inl g129))), (h, oX11 th aw ai ab ac hi re aP ta po en be de fa a5 sp av an ak x140 aW aC ag aT aN aF), (aw, .inl (cI, 2179, .inl fw)), (av, .inl (cI, 400, .inl g141)), (an, .inl (cI, 10, .inl g142)), (ak, .inl (cI, 10, .inl g143)), (aC, .inl (cI, 4096, .inl g144))] ∧ va_S A s.heap H locs ∧ lv_has ls 5 [(4, .int y2596), (3, .int y2467), (2, .int y2468), (0, .ref h), (1, .int 0)]) ((0 : Int32)) ⟨(ex_from (by rw [← hX41_0]; exact tW_go hTW (cn_lt hX41_1 (by have q1 := hy2468; unfold Rg at q1; omega)) (by rw [hX41_0]; exact cn_lt2 (nleI c2471) (by have q1 := k2472; unfold Rg at q1; omega)) hsh9 hX41_2)), (rg_w (rg_lit (n := 0) (by decide)) (by decide)), hP.sub (ws' := [(ag, .inl (cI, 10, .inl g2469)), (aW, .inl (cJ, 4096, .inr (.inl g129))), (h, oX11 th aw ai ab ac hi re aP ta po en be de fa a5 sp av an ak x140 aW aC ag aT aN aF), (aw, .inl (cI, 2179, .inl fw)), (av, .inl (cI, 400, .inl g141)), (an, .inl (cI, 10, .inl g142)), (ak, .inl (cI, 10, .inl g143)), (aC, .inl (cI, 4096, .inl g144))]) [0, 1, 2, 3, 4, 5, 6, 7] rfl, hD.sub (ws' := [(ag, .inl (cI, 10, .inl g2469)), (aW, .inl (cJ, 4096, .inr (.inl g129))), (h, oX11 th aw ai ab ac hi re aP ta po en be de fa a5 sp av an ak x140 aW aC ag aT aN aF), (aw, .inl (cI, 2179, .inl fw)), (av, .inl (cI, 400, .inl g141)), (an, .inl (cI, 10, .inl g142)), (ak, .inl (cI, 10, .inl g143)), (aC, .inl (cI, 4096, .inl g144))]) [0, 1, 2, 3, 4, 5, 6, 7] (by decide) rfl, hS, lv_sub (l' := [(4, .int 0), (3, .int y2467), (2, .int y2468), (0, .ref h), (1, .int 0)]) hl [0, 1, 2, 3, 4] rfl⟩ (fun u H locs ls hI ih2597 => ?_)
        clear hP hD hS hl
        obtain ⟨y2596, rfl⟩ : ∃ z, z = u := ⟨_, rfl⟩
        obtain ⟨hX52_0, hy2596, hP, hD, hS, hl⟩ := hI
        have hP : va_P D vwCl [(ag, .inl (cI, 10, .inl g2469)), (aW, .inl (cJ, 4096, .inr (.inl g129))), (h, oX11 th aw ai ab ac hi re aP ta po en be de fa a5 sp av an ak x140 aW aC ag aT aN aF), (aw, .inl (cI, 2179, .inl fw)), (av, .inl (cI, 400, .inl g141)), (an, .inl (cI, 10, .inl g142)), (ak, .inl (cI, 10, .inl g143)), (aC, .inl (cI, 4096, .inl g144))] H := hP
        have hD : va_D A [(ag, .inl (cI, 10, .inl g2469)), (aW, .inl (cJ, 4096, .inr (.inl g129))), (h, oX11 th aw ai ab ac hi re aP ta po en be de fa a5 sp av an ak x140 aW aC ag aT aN aF), (aw, .inl (cI, 2179, .inl fw)), (av, .inl (cI, 400, .inl g141)), (an, .inl (cI, 10, .inl g142)), (ak, .inl (cI, 10, .inl g143)), (aC, .inl (cI, 4096, .inl g144))] := hD
        have hl : lv_has ls 5 [(4, .int y2596), (3, .int y2467), (2, .int y2468), (0, .ref h), (1, .int 0)] := hl
        have k2598 : Rg y2596 0 11 := (by have q1 := lt_of_ex hX52_0 (by have q1 := hy2596; unfold Rg at q1; omega); have q2 := hsh9; have q3 := hy2596; unfold Rg at q3; simp only [cN] at q1; exact ⟨by omega, by omega⟩)
        refine lv_aload_n hx hb dX11_plans_52 rfl (lv_at hl 3 rfl) ?_
        refine lv_iload_n hx hb dX11_plans_53 rfl (lv_at hl 1 rfl) ?_
        refine lv_iload hx hb dX11_plans_54 (lv_at hl 0 rfl) ?_
        refine lv_iload_n hx hb dX11_plans_56 rfl (lv_at hl 2 rfl) ?_
        refine lv_iload_n hx hb dX11_plans_57 rfl (lv_at hl 4 rfl) ?_
        refine kpurei (wc := [(h, oX11 th aw ai ab ac hi re aP ta po en be de fa a5 sp av an ak x140 aW aC ag aT aN aF), (ak, .inl (cI, 10, .inl g143)), (aW, .inl (cJ, 4096, .inr (.inl g129)))]) hP hD hS hA [2, 6, 1] rfl (by decide) (fun hPc hDc hFc => va_runV (As := [.int y2467, .int y2596, .int y2468, .int 0]) (rest := []) ⟨hx, hb, hml, hown, hts⟩ (r_isNext0 l D cI cJ cB cC h th aw ai ab ac hi re aP ta po en be de fa a5 sp av an ak x140 aW aC ag aT aN aF g143 g129 y2467 y2596 y2468 H.size k2472 k2598 hy2468 k147) (cwV 4 hts gX11_plans_X11_isNext rfl rfl rfl ⟨rfl, hdX11_isNext⟩ ⟨Nat.le_of_ble_eq_true rfl, Nat.le_of_ble_eq_true rfl⟩) ⟨kBlind, va_recv hK hPc (ci := 10) (q0 := 0) rfl rfl, fun U hU hW => ⟨rfl, by rw [hU], hN.warm hW, hE.pass hS hFc hW hU, by rw [hU]; exact hPc, va_K.moved hW.alike hK, hDc⟩⟩ rfl rfl hl.1 rfl (lv_room (Nat.le_of_ble_eq_true rfl)) dX11_plans_58 ⟨Nat.le_of_ble_eq_true rfl, Nat.le_of_ble_eq_true rfl⟩) (fun r2599 u H locs hw hP hS => ?_)
        rcases hw with ⟨rfl, kc2600_0⟩ | ⟨rfl, kc2600_0⟩
        · skip
          refine lv_if_ne (tgt := 70) hx hb dX11_plans_61 (by decide) (fun c2601 => absurd (by decide) c2601) (fun _ => ?_)
          obtain ⟨x2602, ex2602⟩ : ∃ y : Int32, y = y2596 + 1 := ⟨_, rfl⟩
          refine lv_iinc (v := x2602) (lv' := [(4, .int x2602), (3, .int y2467), (2, .int y2468), (0, .ref h), (1, .int 0)]) hx hb dX11_plans_64 hl (k := 0) rfl (by rw [ex2602]; rfl) (by decide) rfl (fun ls hl => ?_)
          have k2603 : Rg x2602 1 12 := rg_add ex2602 k2598 (rg_lit (n := 1) (by decide)) (by decide)
          refine lv_goto (tgt := 52) hx hb dX11_plans_67 (by decide) ?_
          exact ih2597 (x2602) _ _ _ (by show (12 - (x2602).toInt).toNat < (12 - (y2596).toInt).toNat; exact mu_up ex2602 k2598 k2603 (by decide)) ⟨(ex_next hX52_0 kc2600_0 (ti_add (Y := 1) ex2602 k2598 (rg_lit (n := 1) (by decide)) (by decide) rfl (by decide))), (rg_w k2603 (by decide)), hP.sub (ws' := [(ag, .inl (cI, 10, .inl g2469)), (aW, .inl (cJ, 4096, .inr (.inl g129))), (h, oX11 th aw ai ab ac hi re aP ta po en be de fa a5 sp av an ak x140 aW aC ag aT aN aF), (aw, .inl (cI, 2179, .inl fw)), (av, .inl (cI, 400, .inl g141)), (an, .inl (cI, 10, .inl g142)), (ak, .inl (cI, 10, .inl g143)), (aC, .inl (cI, 4096, .inl g144))]) [0, 1, 2, 3, 4, 5, 6, 7] rfl, hD.sub (ws' := [(ag, .inl (cI, 10, .inl g2469)), (aW, .inl (cJ, 4096, .inr (.inl g129))), (h, oX11 th aw ai ab ac hi re aP ta po en be de fa a5 sp av an ak x140 aW aC ag aT aN aF), (aw, .inl (cI, 2179, .inl fw)), (av, .inl (cI, 400, .inl g141)), (an, .inl (cI, 10, .inl g142)), (ak, .inl (cI, 10, .inl g143)), (aC, .inl (cI, 4096, .inl g144))]) [0, 1, 2, 3, 4, 5, 6, 7] (by decide) rfl, hS, lv_sub (l' := [(4, .int x2602), (3, .int y2467), (2, .int y2468), (0, .ref h), (1, .int 0)]) hl [0, 1, 2, 3, 4] rfl⟩
        · skip
          refine lv_if_ne (tgt := 70) hx hb dX11_plans_61 (by decide) (fun _ => ?_) (fun c2604 => absurd c2604 (by decide))
          refine lv_aload_n hx hb dX11_plans_70 rfl (lv_at hl 3 rfl) ?_
          refine va_get (D := D) (ci := 10) (v := .ref ag) (C := RX11) (T := TX11) (N := 26) hx hb hts iG_X11 hown hK hP 2 rfl rfl 22 (by decide) (hts _ w5_16) (fun _ h9 => h9) rfl dX11_plans_71 ?_
          refine lv_aload_n hx hb dX11_plans_74 rfl (lv_at hl 3 rfl) ?_
          refine va_get (D := D) (ci := 10) (v := .ref an) (C := RX11) (T := TX11) (N := 26) hx hb hts iG_X11 hown hK hP 2 rfl rfl 17 (by decide) (hts _ w5_12) (fun _ h9 => h9) rfl dX11_plans_75 ?_
          refine lv_iload_n hx hb dX11_plans_78 rfl (lv_at hl 1 rfl) ?_
          refine va_iald hx hb hK hP 5 0 rfl rfl (rg_in k2472 (by decide)) dX11_plans_79 ?_
          refine lv_topi (fun x2605 ex2605 => ?_)
          have k2606 : Rg x2605 0 9 := wN_rd k146 ex2605
          refine lv_iload hx hb dX11_plans_80 (lv_at hl 0 rfl) ?_
          refine va_iast hx hb hK hP hD hS 0 0 rfl rfl (rg_in k2606 (by decide)) dX11_plans_82 (fun H locs hP hD hS => ?_)
          have hP : va_P D vwCl [(ag, .inl (cI, 10, .inl (upd g2469 x2605.toNatClampNeg y2596))), (aW, .inl (cJ, 4096, .inr (.inl g129))), (h, oX11 th aw ai ab ac hi re aP ta po en be de fa a5 sp av an ak x140 aW aC ag aT aN aF), (aw, .inl (cI, 2179, .inl fw)), (av, .inl (cI, 400, .inl g141)), (an, .inl (cI, 10, .inl g142)), (ak, .inl (cI, 10, .inl g143)), (aC, .inl (cI, 4096, .inl g144))] H := hP
          have hD : va_D A [(ag, .inl (cI, 10, .inl (upd g2469 x2605.toNatClampNeg y2596))), (aW, .inl (cJ, 4096, .inr (.inl g129))), (h, oX11 th aw ai ab ac hi re aP ta po en be de fa a5 sp av an ak x140 aW aC ag aT aN aF), (aw, .inl (cI, 2179, .inl fw)), (av, .inl (cI, 400, .inl g141)), (an, .inl (cI, 10, .inl g142)), (ak, .inl (cI, 10, .inl g143)), (aC, .inl (cI, 4096, .inl g144))] := hD
          generalize hg2607 : (upd g2469 x2605.toNatClampNeg y2596) = g2607 at hP hD
          refine lv_iload_n hx hb dX11_plans_83 rfl (lv_at hl 2 rfl) ?_
          refine lv_iconst (v := 1) hx hb dX11_plans_84 (by decide) ?_
          refine lv_iload hx hb dX11_plans_85 (lv_at hl 0 rfl) ?_
          refine lv_ishl hx hb dX11_plans_87 ?_
          refine lv_topi (fun x2608 ex2608 => ?_)
          have k2609 : Rg x2608 1 2048 := rg_shl1 11 ex2608 k2598 (by decide)
          refine lv_ior hx hb dX11_plans_88 ?_
          refine lv_topi (fun x2610 ex2610 => ?_)
          have k2611 : Rg x2610 0 4095 := rg_or 12 ex2610 hy2468 k2609 (by decide)
          refine lv_istore_n (lv' := [(2, .int x2610), (4, .int y2596), (3, .int y2467), (0, .ref h), (1, .int 0)]) hx hb dX11_plans_89 rfl hl (by decide) rfl (fun ls hl => ?_)
          obtain ⟨x2612, ex2612⟩ : ∃ y : Int32, y = y2467 + 1 := ⟨_, rfl⟩
          refine lv_iinc (v := x2612) (lv' := [(3, .int x2612), (2, .int x2610), (4, .int y2596), (0, .ref h), (1, .int 0)]) hx hb dX11_plans_90 hl (k := 2) rfl (by rw [ex2612]; rfl) (by decide) rfl (fun ls hl => ?_)
          have k2613 : Rg x2612 1 10 := rg_add ex2612 k2472 (rg_lit (n := 1) (by decide)) (by decide)
          refine lv_goto (tgt := 41) hx hb dX11_plans_93 (by decide) ?_
          exact ih2470 (x2612, x2610, g2607) _ _ _ (by show (10 - (x2612).toInt).toNat < (10 - (y2467).toInt).toNat; exact mu_up ex2612 k2472 k2613 (by decide)) ⟨(by rw [(or_bit ex2608 ex2610 hy2468 k2598).1, pop_or kc2600_0.1.2 (by have q1 := k2598; unfold Rg at q1; simp only [cN]; omega), hX41_0]; exact (s1_cN (by have q1 := k2472; unfold Rg at q1; omega) (ti_add (Y := 1) ex2612 k2472 (rg_lit (n := 1) (by decide)) (by decide) rfl (by decide))).symm), (lt_cn (by rw [(or_bit ex2608 ex2610 hy2468 k2598).1]; exact Nat.or_lt_two_pow (cn_lt hX41_1 (by have q1 := hy2468; unfold Rg at q1; omega)) (Nat.pow_lt_pow_right (by omega) (lt_of_ex hX52_0 (by have q1 := k2598; unfold Rg at q1; omega))))), (by rw [(or_bit ex2608 ex2610 hy2468 k2598).1]; have q1 := kc2600_0.2; omega), (gets_step hX41_3 hg2607 k2598 (cl_of (k := cN x2605) k2606 (by decide) (by simp only [cN]; have q1 := k2606; unfold Rg at q1; omega)) (by rw [ex2605, (cl_of (k := cN y2467) k2472 (by decide) (by simp only [cN]; have q1 := k2472; unfold Rg at q1; omega))]) (s1_cN (by have q1 := k2472; unfold Rg at q1; omega) (ti_add (Y := 1) ex2612 k2472 (rg_lit (n := 1) (by decide)) (by decide) rfl (by decide)))), (by have q1 := (nleI c2471); have q2 := (ti_add (Y := 1) ex2612 k2472 (rg_lit (n := 1) (by decide)) (by decide) rfl (by decide)); omega), (rg_w k2613 (by decide)), k2611, hP.sub (ws' := [(ag, .inl (cI, 10, .inl g2607)), (aW, .inl (cJ, 4096, .inr (.inl g129))), (h, oX11 th aw ai ab ac hi re aP ta po en be de fa a5 sp av an ak x140 aW aC ag aT aN aF), (aw, .inl (cI, 2179, .inl fw)), (av, .inl (cI, 400, .inl g141)), (an, .inl (cI, 10, .inl g142)), (ak, .inl (cI, 10, .inl g143)), (aC, .inl (cI, 4096, .inl g144))]) [0, 1, 2, 3, 4, 5, 6, 7] rfl, hD.sub (ws' := [(ag, .inl (cI, 10, .inl g2607)), (aW, .inl (cJ, 4096, .inr (.inl g129))), (h, oX11 th aw ai ab ac hi re aP ta po en be de fa a5 sp av an ak x140 aW aC ag aT aN aF), (aw, .inl (cI, 2179, .inl fw)), (av, .inl (cI, 400, .inl g141)), (an, .inl (cI, 10, .inl g142)), (ak, .inl (cI, 10, .inl g143)), (aC, .inl (cI, 4096, .inl g144))]) [0, 1, 2, 3, 4, 5, 6, 7] (by decide) rfl, hS, lv_sub (l' := [(3, .int x2612), (2, .int x2610), (0, .ref h), (1, .int 0)]) hl [0, 1, 3, 4] rfl⟩
    · skip
      have k2614 : Rg x136 0 0 := rg_q1 (eqI c138) k137 (rg_lit (n := 0) (by decide)) (by decide)
      refine lv_iconst (v := 0) hx hb dX11_plans_30 (by decide) ?_
      have hP9 := hP.sub (ws' := [(h, oX11 th aw ai ab ac hi re aP ta po en be de fa a5 sp av an ak x125 aW aC ag aT aN aF), (aw, .inl (cI, 2179, .inl fw)), (av, .inl (cI, 400, .inl g126)), (an, .inl (cI, 10, .inl g127)), (ak, .inl (cI, 10, .inl g128)), (aW, .inl (cJ, 4096, .inr (.inl g129))), (aC, .inl (cI, 4096, .inl fC)), (ag, .inl (cI, 10, .inl g120))]) [2, 3, 4, 5, 6, 7, 0, 1] rfl
      have hD9 := hD.sub (ws' := [(h, oX11 th aw ai ab ac hi re aP ta po en be de fa a5 sp av an ak x125 aW aC ag aT aN aF), (aw, .inl (cI, 2179, .inl fw)), (av, .inl (cI, 400, .inl g126)), (an, .inl (cI, 10, .inl g127)), (ak, .inl (cI, 10, .inl g128)), (aW, .inl (cJ, 4096, .inr (.inl g129))), (aC, .inl (cI, 4096, .inl fC)), (ag, .inl (cI, 10, .inl g120))]) [2, 3, 4, 5, 6, 7, 0, 1] (by decide) rfl
      exact W.zret (v := 0) hx hb hr (by decide) (fun t ht hW => ⟨⟨0, (x125, g126, g127, g128, g129, fC, g120), rfl, ⟨k130, k131, k132, H_fC_F, (Or.inl rfl)⟩, by rw [ht]; exact hP9, va_K.moved hW.alike hK, hD9⟩, hS.F ht⟩) hS.2.2 dX11_plans_31
  · skip
    have k2615 : Rg y119 0 9 := rg_l1 (nleI c122) hy119 (rg_lit (n := 10) (by decide)) (by decide)
    refine lv_aload_n hx hb dX11_plans_8 rfl (lv_at hl 1 rfl) ?_
    refine va_get (D := D) (ci := 10) (v := .ref ag) (C := RX11) (T := TX11) (N := 26) hx hb hts iG_X11 hown hK hP 0 rfl rfl 22 (by decide) (hts _ w5_16) (fun _ h9 => h9) rfl dX11_plans_9 ?_
    refine lv_iload_n hx hb dX11_plans_12 rfl (lv_at hl 0 rfl) ?_
    refine lv_iconst (v := (-1)) hx hb dX11_plans_13 (by decide) ?_
    refine va_iast hx hb hK hP hD hS 7 0 rfl rfl (rg_in k2615 (by decide)) dX11_plans_14 (fun H locs hP hD hS => ?_)
    have hP : va_P D vwCl [(h, oX11 th aw ai ab ac hi re aP ta po en be de fa a5 sp av an ak ne aW aC ag aT aN aF), (aw, .inl (cI, 2179, .inl fw)), (av, .inl (cI, 400, .inl fv)), (an, .inl (cI, 10, .inl fn)), (ak, .inl (cI, 10, .inl fk)), (aW, .inl (cJ, 4096, .inr (.inl fW))), (aC, .inl (cI, 4096, .inl fC)), (ag, .inl (cI, 10, .inl (upd g120 y119.toNatClampNeg (-1))))] H := hP
    have hD : va_D A [(h, oX11 th aw ai ab ac hi re aP ta po en be de fa a5 sp av an ak ne aW aC ag aT aN aF), (aw, .inl (cI, 2179, .inl fw)), (av, .inl (cI, 400, .inl fv)), (an, .inl (cI, 10, .inl fn)), (ak, .inl (cI, 10, .inl fk)), (aW, .inl (cJ, 4096, .inr (.inl fW))), (aC, .inl (cI, 4096, .inl fC)), (ag, .inl (cI, 10, .inl (upd g120 y119.toNatClampNeg (-1))))] := hD
    generalize hg2616 : (upd g120 y119.toNatClampNeg (-1)) = g2616 at hP hD
    obtain ⟨x2617, ex2617⟩ : ∃ y : Int32, y = y119 + 1 := ⟨_, rfl⟩
    refine lv_iinc (v := x2617) (lv' := [(2, .int x2617), (0, .ref h), (1, .int 0)]) hx hb dX11_plans_15 hl (k := 0) rfl (by rw [ex2617]; rfl) (by decide) rfl (fun ls hl => ?_)
    have k2618 : Rg x2617 1 10 := rg_add ex2617 k2615 (rg_lit (n := 1) (by decide)) (by decide)
    refine lv_goto (tgt := 2) hx hb dX11_plans_18 (by decide) ?_
    exact ih121 (x2617, g2616) _ _ _ (by show (10 - (x2617).toInt).toNat < (10 - (y119).toInt).toNat; exact mu_up ex2617 k2615 k2618 (by decide)) ⟨(rg_w k2618 (by decide)), hP.sub (ws' := [(h, oX11 th aw ai ab ac hi re aP ta po en be de fa a5 sp av an ak ne aW aC ag aT aN aF), (aw, .inl (cI, 2179, .inl fw)), (av, .inl (cI, 400, .inl fv)), (an, .inl (cI, 10, .inl fn)), (ak, .inl (cI, 10, .inl fk)), (aW, .inl (cJ, 4096, .inr (.inl fW))), (aC, .inl (cI, 4096, .inl fC)), (ag, .inl (cI, 10, .inl g2616))]) [0, 1, 2, 3, 4, 5, 6, 7] rfl, hD.sub (ws' := [(h, oX11 th aw ai ab ac hi re aP ta po en be de fa a5 sp av an ak ne aW aC ag aT aN aF), (aw, .inl (cI, 2179, .inl fw)), (av, .inl (cI, 400, .inl fv)), (an, .inl (cI, 10, .inl fn)), (ak, .inl (cI, 10, .inl fk)), (aW, .inl (cJ, 4096, .inr (.inl fW))), (aC, .inl (cI, 4096, .inl fC)), (ag, .inl (cI, 10, .inl g2616))]) [0, 1, 2, 3, 4, 5, 6, 7] (by decide) rfl, hS, lv_sub (l' := [(2, .int x2617), (0, .ref h), (1, .int 0)]) hl [0, 1, 2] rfl⟩

set_option maxHeartbeats 4000000 in
set_option maxRecDepth 100000 in
/-- reference: plans -/
theorem r_plans1 (l : Launch) (D : va_G) (cI cJ cB cC : ClassId) (h : Nat) (th : Int32) (aw : Nat) (ai : Nat) (ab : Nat) (ac : Nat) (hi : Int32) (re : Int32) (aP : Nat) (ta : Int32) (po : Int32) (en : Int32) (be : Int32) (de : Int32) (fa : Int32) (a5 : Nat) (sp : Int32) (av : Nat) (an : Nat) (ak : Nat) (ne : Int32) (aW : Nat) (aC : Nat) (ag : Nat) (aT : Nat) (aN : Nat) (aF : Nat) (fw : Nat → Int32) (fv : Nat → Int32) (fn : Nat → Int32) (fk : Nat → Int32) (fW : Nat → Int64) (fC : Nat → Int32) (fg : Nat → Int32) (sz : Nat) (H_fw_W : wW fw) (H_fw_L : wL fw) (H_fn_N : wN fn) (H_fk_K : wK fk) (H_fC_F : wF fC) : Met l yX11_plans kwX11_plans ({ frames := 9, cells := 0, slots := 0, locals := 211 } : Room) (kPre D (kT cI cJ cB cC) sz [(h, oX11 th aw ai ab ac hi re aP ta po en be de fa a5 sp av an ak ne aW aC ag aT aN aF), (aw, .inl (cI, 2179, .inl fw)), (av, .inl (cI, 400, .inl fv)), (an, .inl (cI, 10, .inl fn)), (ak, .inl (cI, 10, .inl fk)), (aW, .inl (cJ, 4096, .inr (.inl fW))), (aC, .inl (cI, 4096, .inl fC)), (ag, .inl (cI, 10, .inl fg))] [.ref h, .int 1]) (va_Qi (fun (r : Int32) (uu : Int32 × (Nat → Int32) × (Nat → Int32) × (Nat → Int32) × (Nat → Int64) × (Nat → Int32) × (Nat → Int32)) => match uu with | (n0_, f1_, f2_, f3_, f4_, f5_, f6_) => Rg n0_ 0 10 ∧ wN f2_ ∧ wK f3_ ∧ wF f5_ ∧ ((r = 0) ∨ (r = 1 ∧ ∀ j : Nat, j < cN n0_ → Rg (f6_ (cN (f2_ j))) 0 11))) (fun (uu : Int32 × (Nat → Int32) × (Nat → Int32) × (Nat → Int32) × (Nat → Int64) × (Nat → Int32) × (Nat → Int32)) (t : State) => match uu with | (n0_, f1_, f2_, f3_, f4_, f5_, f6_) => kB D (kT cI cJ cB cC) (va_A [(h, oX11 th aw ai ab ac hi re aP ta po en be de fa a5 sp av an ak ne aW aC ag aT aN aF), (aw, .inl (cI, 2179, .inl fw)), (av, .inl (cI, 400, .inl fv)), (an, .inl (cI, 10, .inl fn)), (ak, .inl (cI, 10, .inl fk)), (aW, .inl (cJ, 4096, .inr (.inl fW))), (aC, .inl (cI, 4096, .inl fC)), (ag, .inl (cI, 10, .inl fg))] sz) [(h, oX11 th aw ai ab ac hi re aP ta po en be de fa a5 sp av an ak n0_ aW aC ag aT aN aF), (aw, .inl (cI, 2179, .inl fw)), (av, .inl (cI, 400, .inl f1_)), (an, .inl (cI, 10, .inl f2_)), (ak, .inl (cI, 10, .inl f3_)), (aW, .inl (cJ, 4096, .inr (.inl f4_))), (aC, .inl (cI, 4096, .inl f5_)), (ag, .inl (cI, 10, .inl f6_))] t) (va_A [(h, oX11 th aw ai ab ac hi re aP ta po en be de fa a5 sp av an ak ne aW aC ag aT aN aF), (aw, .inl (cI, 2179, .inl fw)), (av, .inl (cI, 400, .inl fv)), (an, .inl (cI, 10, .inl fn)), (ak, .inl (cI, 10, .inl fk)), (aW, .inl (cJ, 4096, .inr (.inl fW))), (aC, .inl (cI, 4096, .inl fC)), (ag, .inl (cI, 10, .inl fg))] sz)) 0 0 (va_A [(h, oX11 th aw ai ab ac hi re aP ta po en be de fa a5 sp av an ak ne aW aC ag aT aN aF), (aw, .inl (cI, 2179, .inl fw)), (av, .inl (cI, 400, .inl fv)), (an, .inl (cI, 10, .inl fn)), (ak, .inl (cI, 10, .inl fk)), (aW, .inl (cJ, 4096, .inr (.inl fW))), (aC, .inl (cI, 4096, .inl fC)), (ag, .inl (cI, 10, .inl fg))] sz) := by
  refine Met.ofW (cc := cX11_plans) (maxL := 5) (ret := (some .boolean)) (by decide) rfl ?_
  intro p e s m args below meth c s₁ B hml hv
  obtain ⟨rfl, hsz, hN, hE, hP, hK, hD0⟩ := hv
  have hx := B.exec
  have hb := B.bytes
  have hr := B.returns
  have hts := fun (w : Cond) (h : w ∈ kG) => atoms_spec (ws := kwX11_plans) B.pre w (List.mem_cons_of_mem _ h)
  have hown : s.vm.findClass RX11 = some m.cls := findClass_of_methodNamed B.named
  subst hsz
  have hD := hD0.self (sz := s.heap.size)
  generalize hAe : va_A [(h, oX11 th aw ai ab ac hi re aP ta po en be de fa a5 sp av an ak ne aW aC ag aT aN aF), (aw, .inl (cI, 2179, .inl fw)), (av, .inl (cI, 400, .inl fv)), (an, .inl (cI, 10, .inl fn)), (ak, .inl (cI, 10, .inl fk)), (aW, .inl (cJ, 4096, .inr (.inl fW))), (aC, .inl (cI, 4096, .inl fC)), (ag, .inl (cI, 10, .inl fg))] s.heap.size = A at hD hE ⊢
  have hA : ∀ q : Nat, s.heap.size ≤ q → A q := fun q h => by rw [← hAe]; exact Or.inr h
  have hl := lv_entry ([.ref h, .int 1]) (n := 5) (Nat.le_of_ble_eq_true rfl)
  rw [lg_entry_eq]
  generalize (lg_sl ([.ref h, .int 1]) ++ List.replicate (5 - (lg_sl ([.ref h, .int 1])).length) Slot.unset).toArray = ls at hl ⊢
  have hl : lv_has ls 5 [(0, .ref h), (1, .int 1)] := hl
  obtain ⟨H, hH0⟩ : ∃ H, H = s.heap := ⟨_, rfl⟩
  have hS : va_S A s.heap H [] := by rw [hH0]; exact va_S.rf
  have hP : va_P D vwCl [(h, oX11 th aw ai ab ac hi re aP ta po en be de fa a5 sp av an ak ne aW aC ag aT aN aF), (aw, .inl (cI, 2179, .inl fw)), (av, .inl (cI, 400, .inl fv)), (an, .inl (cI, 10, .inl fn)), (ak, .inl (cI, 10, .inl fk)), (aW, .inl (cJ, 4096, .inr (.inl fW))), (aC, .inl (cI, 4096, .inl fC)), (ag, .inl (cI, 10, .inl fg))] H := by rw [hH0]; exact hP
  refine kHeap hH0 ?_
  clear hH0
  refine lv_iconst (v := 0) hx hb dX11_plans_0 (by decide) ?_
  refine lv_istore_n (lv' := [(2, .int 0), (0, .ref h), (1, .int 1)]) hx hb dX11_plans_1 rfl hl (by decide) rfl (fun ls hl => ?_)
  refine k_loop (hd := 2) (fun (u : Int32 × (Nat → Int32)) => match u with | (y119, g120) => (10 - (y119).toInt).toNat) (fun (u : Int32 × (Nat → Int32)) (H : Heap) (locs : List Loc) (ls : Array Slot) => match u with | (y119, g120) => Rg y119 0 10 ∧ va_P D vwCl [(h, oX11 th aw ai ab ac hi re aP ta po en be de fa a5 sp av an ak ne aW aC ag aT aN aF), (aw, .inl (cI, 2179, .inl fw)), (av, .inl (cI, 400, .inl fv)), (an, .inl (cI, 10, .inl fn)), (ak, .inl (cI, 10, .inl fk)), (aW, .inl (cJ, 4096, .inr (.inl fW))), (aC, .inl (cI, 4096, .inl fC)), (ag, .inl (cI, 10, .inl g120))] H ∧ va_D A [(h, oX11 th aw ai ab ac hi re aP ta po en be de fa a5 sp av an ak ne aW aC ag aT aN aF), (aw, .inl (cI, 2179, .inl fw)), (av, .inl (cI, 400, .inl fv)), (an, .inl (cI, 10, .inl fn)), (ak, .inl (cI, 10, .inl fk)), (aW, .inl (cJ, 4096, .inr (.inl fW))), (aC, .inl (cI, 4096, .inl fC)), (ag, .inl (cI, 10, .inl g120))] ∧ va_S A s.heap H locs ∧ lv_has ls 5 [(2, .int y119), (0, .ref h), (1, .int 1)]) ((0 : Int32), fg) ⟨(rg_w (rg_lit (n := 0) (by decide)) (by decide)), hP.sub (ws' := [(h, oX11 th aw ai ab ac hi re aP ta po en be de fa a5 sp av an ak ne aW aC ag aT aN aF), (aw, .inl (cI, 2179, .inl fw)), (av, .inl (cI, 400, .inl fv)), (an, .inl (cI, 10, .inl fn)), (ak, .inl (cI, 10, .inl fk)), (aW, .inl (cJ, 4096, .inr (.inl fW))), (aC, .inl (cI, 4096, .inl fC)), (ag, .inl (cI, 10, .inl fg))]) [0, 1, 2, 3, 4, 5, 6, 7] rfl, hD.sub (ws' := [(h, oX11 th aw ai ab ac hi re aP ta po en be de fa a5 sp av an ak ne aW aC ag aT aN aF), (aw, .inl (cI, 2179, .inl fw)), (av, .inl (cI, 400, .inl fv)), (an, .inl (cI, 10, .inl fn)), (ak, .inl (cI, 10, .inl fk)), (aW, .inl (cJ, 4096, .inr (.inl fW))), (aC, .inl (cI, 4096, .inl fC)), (ag, .inl (cI, 10, .inl fg))]) [0, 1, 2, 3, 4, 5, 6, 7] (by decide) rfl, hS, lv_sub (l' := [(2, .int 0), (0, .ref h), (1, .int 1)]) hl [0, 1, 2] rfl⟩ (fun u H locs ls hI ih121 => ?_)
  clear hP hD hS hl
  obtain ⟨y119, g120⟩ := u
  obtain ⟨hy119, hP, hD, hS, hl⟩ := hI
  have hP : va_P D vwCl [(h, oX11 th aw ai ab ac hi re aP ta po en be de fa a5 sp av an ak ne aW aC ag aT aN aF), (aw, .inl (cI, 2179, .inl fw)), (av, .inl (cI, 400, .inl fv)), (an, .inl (cI, 10, .inl fn)), (ak, .inl (cI, 10, .inl fk)), (aW, .inl (cJ, 4096, .inr (.inl fW))), (aC, .inl (cI, 4096, .inl fC)), (ag, .inl (cI, 10, .inl g120))] H := hP
  have hD : va_D A [(h, oX11 th aw ai ab ac hi re aP ta po en be de fa a5 sp av an ak ne aW aC ag aT aN aF), (aw, .inl (cI, 2179, .inl fw)), (av, .inl (cI, 400, .inl fv)), (an, .inl (cI, 10, .inl fn)), (ak, .inl (cI, 10, .inl fk)), (aW, .inl (cJ, 4096, .inr (.inl fW))), (aC, .inl (cI, 4096, .inl fC)), (ag, .inl (cI, 10, .inl g120))] := hD
  have hl : lv_has ls 5 [(2, .int y119), (0, .ref h), (1, .int 1)] := hl
  refine lv_iload_n hx hb dX11_plans_2 rfl (lv_at hl 0 rfl) ?_
  refine lv_bipush (v := 10) hx hb dX11_plans_3 (by decide) ?_
  refine lv_icmp_ge (tgt := 21) hx hb dX11_plans_5 (by decide) (fun c122 => ?_) (fun c122 => ?_)
  · skip
    have k123 : Rg y119 10 10 := rg_e2 (leI c122) (rg_lit (n := 10) (by decide)) hy119 (by decide)
    refine lv_aload_n hx hb dX11_plans_21 rfl (lv_at hl 1 rfl) ?_
    refine kcalll (wc := [(h, oX11 th aw ai ab ac hi re aP ta po en be de fa a5 sp av an ak ne aW aC ag aT aN aF), (aw, .inl (cI, 2179, .inl fw)), (av, .inl (cI, 400, .inl fv)), (an, .inl (cI, 10, .inl fn)), (ak, .inl (cI, 10, .inl fk)), (aW, .inl (cJ, 4096, .inr (.inl fW)))]) (wr := [(aC, .inl (cI, 4096, .inl fC)), (ag, .inl (cI, 10, .inl g120))]) hP hD hS hA [0, 1, 2, 3, 4, 5] [6, 7] rfl rfl (by decide) (by decide) (by decide) (fun hPc hDc hFc => va_runV (As := []) (rest := []) ⟨hx, hb, hml, hown, hts⟩ (r_allWaysx l D cI cJ cB cC h th aw ai ab ac hi re aP ta po en be de fa a5 sp av an ak ne aW aC ag aT aN aF fw fv fn fk fW H.size H_fw_W H_fw_L H_fn_N H_fk_K) (cwV 0 hts gX11_plans_X11_allWays rfl rfl rfl ⟨rfl, hdX11_allWays⟩ ⟨Nat.le_of_ble_eq_true rfl, Nat.le_of_ble_eq_true rfl⟩) ⟨kBlind, va_recv hK hPc (ci := 10) (q0 := 0) rfl rfl, fun U hU hW => ⟨rfl, by rw [hU], hN.warm hW, hE.pass hS hFc hW hU, by rw [hU]; exact hPc, va_K.moved hW.alike hK, hDc⟩⟩ rfl rfl hl.1 rfl (lv_room (Nat.le_of_ble_eq_true rfl)) dX11_plans_22 ⟨Nat.le_of_ble_eq_true rfl, Nat.le_of_ble_eq_true rfl⟩) (fun r124 u H locs hw hP hD hS => ?_)
    obtain ⟨x125, g126, g127, g128, g129⟩ := u
    have hP : va_P D vwCl [(aC, .inl (cI, 4096, .inl fC)), (ag, .inl (cI, 10, .inl g120)), (h, oX11 th aw ai ab ac hi re aP ta po en be de fa a5 sp av an ak x125 aW aC ag aT aN aF), (aw, .inl (cI, 2179, .inl fw)), (av, .inl (cI, 400, .inl g126)), (an, .inl (cI, 10, .inl g127)), (ak, .inl (cI, 10, .inl g128)), (aW, .inl (cJ, 4096, .inr (.inl g129)))] H := hP
    have hD : va_D A [(aC, .inl (cI, 4096, .inl fC)), (ag, .inl (cI, 10, .inl g120)), (h, oX11 th aw ai ab ac hi re aP ta po en be de fa a5 sp av an ak x125 aW aC ag aT aN aF), (aw, .inl (cI, 2179, .inl fw)), (av, .inl (cI, 400, .inl g126)), (an, .inl (cI, 10, .inl g127)), (ak, .inl (cI, 10, .inl g128)), (aW, .inl (cJ, 4096, .inr (.inl g129)))] := hD
    obtain ⟨k130, k131, k132, k133, k134, k135⟩ := hw
    refine lv_lconst (v := 0) hx hb dX11_plans_25 (by decide) ?_
    refine W.lcmp hx hb dX11_plans_26 ?_
    refine lv_topi (fun x136 ex136 => ?_)
    have k137 : Rg x136 (-1) 1 := rg_cmp ex136
    refine lv_if_ne (tgt := 32) hx hb dX11_plans_27 (by decide) (fun c138 => ?_) (fun c138 => ?_)
    · skip
      refine lv_aload_n hx hb dX11_plans_32 rfl (lv_at hl 1 rfl) ?_
      refine kcalli (wc := [(h, oX11 th aw ai ab ac hi re aP ta po en be de fa a5 sp av an ak x125 aW aC ag aT aN aF), (aw, .inl (cI, 2179, .inl fw)), (av, .inl (cI, 400, .inl g126)), (an, .inl (cI, 10, .inl g127)), (ak, .inl (cI, 10, .inl g128)), (aC, .inl (cI, 4096, .inl fC))]) (wr := [(ag, .inl (cI, 10, .inl g120)), (aW, .inl (cJ, 4096, .inr (.inl g129)))]) hP hD hS hA [2, 3, 4, 5, 6, 0] [1, 7] rfl rfl (by decide) (by decide) (by decide) (fun hPc hDc hFc => va_runV (As := []) (rest := []) ⟨hx, hb, hml, hown, hts⟩ (r_leastCostx l D cI cJ cB cC h th aw ai ab ac hi re aP ta po en be de fa a5 sp av an ak x125 aW aC ag aT aN aF fw g126 g127 g128 fC H.size H_fw_W H_fw_L k131 k132 H_fC_F) (cwV 0 hts gX11_plans_X11_leastCost rfl rfl rfl ⟨rfl, hdX11_leastCost⟩ ⟨Nat.le_of_ble_eq_true rfl, Nat.le_of_ble_eq_true rfl⟩) ⟨kBlind, va_recv hK hPc (ci := 10) (q0 := 0) rfl rfl, fun U hU hW => ⟨rfl, by rw [hU], hN.warm hW, hE.pass hS hFc hW hU, by rw [hU]; exact hPc, va_K.moved hW.alike hK, hDc⟩⟩ rfl rfl hl.1 rfl (lv_room (Nat.le_of_ble_eq_true rfl)) dX11_plans_33 ⟨Nat.le_of_ble_eq_true rfl, Nat.le_of_ble_eq_true rfl⟩) (fun r139 u H locs hw hP hD hS => ?_)
      obtain ⟨x140, g141, g142, g143, g144⟩ := u
      have hP : va_P D vwCl [(ag, .inl (cI, 10, .inl g120)), (aW, .inl (cJ, 4096, .inr (.inl g129))), (h, oX11 th aw ai ab ac hi re aP ta po en be de fa a5 sp av an ak x140 aW aC ag aT aN aF), (aw, .inl (cI, 2179, .inl fw)), (av, .inl (cI, 400, .inl g141)), (an, .inl (cI, 10, .inl g142)), (ak, .inl (cI, 10, .inl g143)), (aC, .inl (cI, 4096, .inl g144))] H := hP
      have hD : va_D A [(ag, .inl (cI, 10, .inl g120)), (aW, .inl (cJ, 4096, .inr (.inl g129))), (h, oX11 th aw ai ab ac hi re aP ta po en be de fa a5 sp av an ak x140 aW aC ag aT aN aF), (aw, .inl (cI, 2179, .inl fw)), (av, .inl (cI, 400, .inl g141)), (an, .inl (cI, 10, .inl g142)), (ak, .inl (cI, 10, .inl g143)), (aC, .inl (cI, 4096, .inl g144))] := hD
      obtain ⟨k145, k146, k147, k148, k149, k150, k151⟩ := hw
      refine lv_pop hx hb dX11_plans_36 rfl ?_
      have hsm := lk_same k134 k151
      have hTW : tW g129 g143 (cN x140) (cN (fw 1)) 0 := by rw [← cn_eq hsm.1]; exact tW_congr k133 (fun j hj => (hsm.2 j hj).2)
      have hW0 : ¬ (g129 0).toInt = 0 := by rw [← k135]; exact cmp_nz ex136 c138
      have hTC := k150
      have hsh9 : cN (fw 1) ≤ 12 := cn_to (H_fw_W : wW fw).1.2.1 (by decide)
      have hC0 : (g144 0).toInt < 1000000 := way_far hTW hTC H_fw_L hsh9 (cn_to k145 (by decide)) hW0
      refine lv_iconst (v := 0) hx hb dX11_plans_37 (by decide) ?_
      refine lv_istore_n (lv' := [(2, .int 0), (0, .ref h), (1, .int 1)]) hx hb dX11_plans_38 rfl hl (by decide) rfl (fun ls hl => ?_)
      refine lv_iconst (v := 0) hx hb dX11_plans_39 (by decide) ?_
      refine lv_istore_n (lv' := [(3, .int 0), (2, .int 0), (0, .ref h), (1, .int 1)]) hx hb dX11_plans_40 rfl hl (by decide) rfl (fun ls hl => ?_)
      refine k_loop (hd := 41) (fun (u : Int32 × Int32 × (Nat → Int32) × (Nat → Int32)) => match u with | (y3010, y3011, g3012, g3013) => (10 - (y3010).toInt).toNat) (fun (u : Int32 × Int32 × (Nat → Int32) × (Nat → Int32)) (H : Heap) (locs : List Loc) (ls : Array Slot) => match u with | (y3010, y3011, g3012, g3013) => (pop (cN y3011) = cN y3010) ∧ ((y3011 : Int32).toInt < ((2 ^ cN (fw 1) : Nat) : Int)) ∧ ((g144 (cN y3011)).toInt < 1000000) ∧ (∀ j : Nat, j < cN y3010 → Rg (g3012 (cN (g142 j))) 0 11) ∧ ((y3010 : Int32).toInt ≤ (x140 : Int32).toInt) ∧ Rg y3010 0 10 ∧ Rg y3011 0 4095 ∧ va_P D vwCl [(ag, .inl (cI, 10, .inl g3012)), (aW, .inl (cJ, 4096, .inr (.inl g129))), (h, oX11 th aw ai ab ac hi re aP ta po en be de fa a5 sp av an ak x140 aW aC ag aT aN aF), (aw, .inl (cI, 2179, .inl fw)), (av, .inl (cI, 400, .inl g3013)), (an, .inl (cI, 10, .inl g142)), (ak, .inl (cI, 10, .inl g143)), (aC, .inl (cI, 4096, .inl g144))] H ∧ va_D A [(ag, .inl (cI, 10, .inl g3012)), (aW, .inl (cJ, 4096, .inr (.inl g129))), (h, oX11 th aw ai ab ac hi re aP ta po en be de fa a5 sp av an ak x140 aW aC ag aT aN aF), (aw, .inl (cI, 2179, .inl fw)), (av, .inl (cI, 400, .inl g3013)), (an, .inl (cI, 10, .inl g142)), (ak, .inl (cI, 10, .inl g143)), (aC, .inl (cI, 4096, .inl g144))] ∧ va_S A s.heap H locs ∧ lv_has ls 5 [(3, .int y3010), (2, .int y3011), (0, .ref h), (1, .int 1)]) ((0 : Int32), (0 : Int32), g120, g141) ⟨(by have q0 : cN (0 : Int32) = 0 := (by decide); rw [q0]; exact pop_0), (z_lt2 _), (by have q0 : cN (0 : Int32) = 0 := (by decide); rw [q0]; exact hC0), (fun j hj => by have q0 : cN (0 : Int32) = 0 := (by decide); omega), (by have q1 := k145; unfold Rg at q1; have q2 : (0 : Int32).toInt = 0 := (by decide); omega), (rg_w (rg_lit (n := 0) (by decide)) (by decide)), (rg_w (rg_lit (n := 0) (by decide)) (by decide)), hP.sub (ws' := [(ag, .inl (cI, 10, .inl g120)), (aW, .inl (cJ, 4096, .inr (.inl g129))), (h, oX11 th aw ai ab ac hi re aP ta po en be de fa a5 sp av an ak x140 aW aC ag aT aN aF), (aw, .inl (cI, 2179, .inl fw)), (av, .inl (cI, 400, .inl g141)), (an, .inl (cI, 10, .inl g142)), (ak, .inl (cI, 10, .inl g143)), (aC, .inl (cI, 4096, .inl g144))]) [0, 1, 2, 3, 4, 5, 6, 7] rfl, hD.sub (ws' := [(ag, .inl (cI, 10, .inl g120)), (aW, .inl (cJ, 4096, .inr (.inl g129))), (h, oX11 th aw ai ab ac hi re aP ta po en be de fa a5 sp av an ak x140 aW aC ag aT aN aF), (aw, .inl (cI, 2179, .inl fw)), (av, .inl (cI, 400, .inl g141)), (an, .inl (cI, 10, .inl g142)), (ak, .inl (cI, 10, .inl g143)), (aC, .inl (cI, 4096, .inl g144))]) [0, 1, 2, 3, 4, 5, 6, 7] (by decide) rfl, hS, lv_sub (l' := [(3, .int 0), (2, .int 0), (0, .ref h), (1, .int 1)]) hl [0, 1, 2, 3] rfl⟩ (fun u H locs ls hI ih3014 => ?_)
      clear hP hD hS hl
      obtain ⟨y3010, y3011, g3012, g3013⟩ := u
      obtain ⟨hX41_0, hX41_1, hX41_2, hX41_3, hX41_4, hy3010, hy3011, hP, hD, hS, hl⟩ := hI
      have hP : va_P D vwCl [(ag, .inl (cI, 10, .inl g3012)), (aW, .inl (cJ, 4096, .inr (.inl g129))), (h, oX11 th aw ai ab ac hi re aP ta po en be de fa a5 sp av an ak x140 aW aC ag aT aN aF), (aw, .inl (cI, 2179, .inl fw)), (av, .inl (cI, 400, .inl g3013)), (an, .inl (cI, 10, .inl g142)), (ak, .inl (cI, 10, .inl g143)), (aC, .inl (cI, 4096, .inl g144))] H := hP
      have hD : va_D A [(ag, .inl (cI, 10, .inl g3012)), (aW, .inl (cJ, 4096, .inr (.inl g129))), (h, oX11 th aw ai ab ac hi re aP ta po en be de fa a5 sp av an ak x140 aW aC ag aT aN aF), (aw, .inl (cI, 2179, .inl fw)), (av, .inl (cI, 400, .inl g3013)), (an, .inl (cI, 10, .inl g142)), (ak, .inl (cI, 10, .inl g143)), (aC, .inl (cI, 4096, .inl g144))] := hD
      have hl : lv_has ls 5 [(3, .int y3010), (2, .int y3011), (0, .ref h), (1, .int 1)] := hl
      refine lv_iload_n hx hb dX11_plans_41 rfl (lv_at hl 0 rfl) ?_
      refine lv_aload_n hx hb dX11_plans_42 rfl (lv_at hl 2 rfl) ?_
      refine va_get (D := D) (ci := 10) (v := .int x140) (C := RX11) (T := TX11) (N := 26) hx hb hts iG_X11 hown hK hP 2 rfl rfl 19 (by decide) (hts _ w40_7) (fun _ h9 => h9) rfl dX11_plans_43 ?_
      refine lv_icmp_ge (tgt := 96) hx hb dX11_plans_46 (by decide) (fun c3015 => ?_) (fun c3015 => ?_)
      · skip
        refine lv_iconst (v := 1) hx hb dX11_plans_96 (by decide) ?_
        have hP9 := hP.sub (ws' := [(h, oX11 th aw ai ab ac hi re aP ta po en be de fa a5 sp av an ak x140 aW aC ag aT aN aF), (aw, .inl (cI, 2179, .inl fw)), (av, .inl (cI, 400, .inl g3013)), (an, .inl (cI, 10, .inl g142)), (ak, .inl (cI, 10, .inl g143)), (aW, .inl (cJ, 4096, .inr (.inl g129))), (aC, .inl (cI, 4096, .inl g144)), (ag, .inl (cI, 10, .inl g3012))]) [2, 3, 4, 5, 6, 1, 7, 0] rfl
        have hD9 := hD.sub (ws' := [(h, oX11 th aw ai ab ac hi re aP ta po en be de fa a5 sp av an ak x140 aW aC ag aT aN aF), (aw, .inl (cI, 2179, .inl fw)), (av, .inl (cI, 400, .inl g3013)), (an, .inl (cI, 10, .inl g142)), (ak, .inl (cI, 10, .inl g143)), (aW, .inl (cJ, 4096, .inr (.inl g129))), (aC, .inl (cI, 4096, .inl g144)), (ag, .inl (cI, 10, .inl g3012))]) [2, 3, 4, 5, 6, 1, 7, 0] (by decide) rfl
        exact W.zret (v := 1) hx hb hr (by decide) (fun t ht hW => ⟨⟨1, (x140, g3013, g142, g143, g129, g144, g3012), rfl, ⟨k145, k146, k147, k148, (Or.inr ⟨rfl, (by have q1 := hX41_4; have q2 := (leI c3015); have q3 : cN y3010 = cN x140 := cn_eq (by omega); rw [← q3]; exact hX41_3)⟩)⟩, by rw [ht]; exact hP9, va_K.moved hW.alike hK, hD9⟩, hS.F ht⟩) hS.2.2 dX11_plans_97
      · skip
        have k3016 : Rg y3010 0 9 := rg_l1 (nleI c3015) hy3010 k145 (by decide)
        have k3017 : Rg x140 1 10 := rg_l2 (nleI c3015) hy3010 k145 (by decide)
        refine lv_iconst (v := 0) hx hb dX11_plans_49 (by decide) ?_
        refine lv_istore (lv' := [(4, .int 0), (3, .int y3010), (2, .int y3011), (0, .ref h), (1, .int 1)]) hx hb dX11_plans_50 hl (by decide) rfl (fun ls hl => ?_)
        refine k_loop (hd := 52) (fun (u : Int32 × (Nat → Int32)) => match u with | (y3171, g3172) => (12 - (y3171).toInt).toNat) (fun (u : Int32 × (Nat → Int32)) (H : Heap) (locs : List Loc) (ls : Array Slot) => match u with | (y3171, g3172) => (∃ s9 : Nat, (y3171 : Int32).toInt ≤ (s9 : Int) ∧ s9 < cN (fw 1) ∧ nxC g144 (fun k9 s9 => (cF fw (g142 k9) (nI s9)).toInt) g143 (cN y3010) (cN y3011) s9) ∧ Rg y3171 0 12 ∧ va_P D vwCl [(ag, .inl (cI, 10, .inl g3012)), (aW, .inl (cJ, 4096, .inr (.inl g129))), (h, oX11 th aw ai ab ac hi re aP ta po en be de fa a5 sp av an ak x140 aW aC ag aT aN aF), (aw, .inl (cI, 2179, .inl fw)), (av, .inl (cI, 400, .inl g3172)), (an, .inl (cI, 10, .inl g142)), (ak, .inl (cI, 10, .inl g143)), (aC, .inl (cI, 4096, .inl g144))] H ∧ va_D A [(ag, .inl (cI, 10, .inl g3012)), (aW, .inl (cJ, 4096, .inr (.inl g129))), (h, oX11 th aw ai ab ac hi re aP ta po en be de fa a5 sp av an ak x140 aW aC ag aT aN aF), (aw, .inl (cI, 2179, .inl fw)), (av, .inl (cI, 400, .inl g3172)), (an, .inl (cI, 10, .inl g142)), (ak, .inl (cI, 10, .inl g143)), (aC, .inl (cI, 4096, .inl g144))] ∧ va_S A s.heap H locs ∧ lv_has ls 5 [(4, .int y3171), (3, .int y3010), (2, .int y3011), (0, .ref h), (1, .int 1)]) ((0 : Int32), g3013) ⟨(ex_from (by rw [← hX41_0]; exact tC_go hTC (cn_lt hX41_1 (by have q1 := hy3011; unfold Rg at q1; omega)) (by rw [hX41_0]; exact cn_lt2 (nleI c3015) (by have q1 := k3016; unfold Rg at q1; omega)) hX41_2)), (rg_w (rg_lit (n := 0) (by decide)) (by decide)), hP.sub (ws' := [(ag, .inl (cI, 10, .inl g3012)), (aW, .inl (cJ, 4096, .inr (.inl g129))), (h, oX11 th aw ai ab ac hi re aP ta po en be de fa a5 sp av an ak x140 aW aC ag aT aN aF), (aw, .inl (cI, 2179, .inl fw)), (av, .inl (cI, 400, .inl g3013)), (an, .inl (cI, 10, .inl g142)), (ak, .inl (cI, 10, .inl g143)), (aC, .inl (cI, 4096, .inl g144))]) [0, 1, 2, 3, 4, 5, 6, 7] rfl, hD.sub (ws' := [(ag, .inl (cI, 10, .inl g3012)), (aW, .inl (cJ, 4096, .inr (.inl g129))), (h, oX11 th aw ai ab ac hi re aP ta po en be de fa a5 sp av an ak x140 aW aC ag aT aN aF), (aw, .inl (cI, 2179, .inl fw)), (av, .inl (cI, 400, .inl g3013)), (an, .inl (cI, 10, .inl g142)), (ak, .inl (cI, 10, .inl g143)), (aC, .inl (cI, 4096, .inl g144))]) [0, 1, 2, 3, 4, 5, 6, 7] (by decide) rfl, hS, lv_sub (l' := [(4, .int 0), (3, .int y3010), (2, .int y3011), (0, .ref h), (1, .int 1)]) hl [0, 1, 2, 3, 4] rfl⟩ (fun u H locs ls hI ih3173 => ?_)
        clear hP hD hS hl
        obtain ⟨y3171, g3172⟩ := u
        obtain ⟨hX52_0, hy3171, hP, hD, hS, hl⟩ := hI
        have hP : va_P D vwCl [(ag, .inl (cI, 10, .inl g3012)), (aW, .inl (cJ, 4096, .inr (.inl g129))), (h, oX11 th aw ai ab ac hi re aP ta po en be de fa a5 sp av an ak x140 aW aC ag aT aN aF), (aw, .inl (cI, 2179, .inl fw)), (av, .inl (cI, 400, .inl g3172)), (an, .inl (cI, 10, .inl g142)), (ak, .inl (cI, 10, .inl g143)), (aC, .inl (cI, 4096, .inl g144))] H := hP
        have hD : va_D A [(ag, .inl (cI, 10, .inl g3012)), (aW, .inl (cJ, 4096, .inr (.inl g129))), (h, oX11 th aw ai ab ac hi re aP ta po en be de fa a5 sp av an ak x140 aW aC ag aT aN aF), (aw, .inl (cI, 2179, .inl fw)), (av, .inl (cI, 400, .inl g3172)), (an, .inl (cI, 10, .inl g142)), (ak, .inl (cI, 10, .inl g143)), (aC, .inl (cI, 4096, .inl g144))] := hD
        have hl : lv_has ls 5 [(4, .int y3171), (3, .int y3010), (2, .int y3011), (0, .ref h), (1, .int 1)] := hl
        have k3174 : Rg y3171 0 11 := (by have q1 := lt_of_ex hX52_0 (by have q1 := hy3171; unfold Rg at q1; omega); have q2 := hsh9; have q3 := hy3171; unfold Rg at q3; simp only [cN] at q1; exact ⟨by omega, by omega⟩)
        refine lv_aload_n hx hb dX11_plans_52 rfl (lv_at hl 3 rfl) ?_
        refine lv_iload_n hx hb dX11_plans_53 rfl (lv_at hl 1 rfl) ?_
        refine lv_iload hx hb dX11_plans_54 (lv_at hl 0 rfl) ?_
        refine lv_iload_n hx hb dX11_plans_56 rfl (lv_at hl 2 rfl) ?_
        refine lv_iload_n hx hb dX11_plans_57 rfl (lv_at hl 4 rfl) ?_
        refine kcalli (wc := [(h, oX11 th aw ai ab ac hi re aP ta po en be de fa a5 sp av an ak x140 aW aC ag aT aN aF), (aw, .inl (cI, 2179, .inl fw)), (av, .inl (cI, 400, .inl g3172)), (an, .inl (cI, 10, .inl g142)), (ak, .inl (cI, 10, .inl g143)), (aC, .inl (cI, 4096, .inl g144))]) (wr := [(ag, .inl (cI, 10, .inl g3012)), (aW, .inl (cJ, 4096, .inr (.inl g129)))]) hP hD hS hA [2, 3, 4, 5, 6, 7] [0, 1] rfl rfl (by decide) (by decide) (by decide) (fun hPc hDc hFc => va_runV (As := [.int y3010, .int y3171, .int y3011, .int 1]) (rest := []) ⟨hx, hb, hml, hown, hts⟩ (r_isNext1 l D cI cJ cB cC h th aw ai ab ac hi re aP ta po en be de fa a5 sp av an ak x140 aW aC ag aT aN aF fw g3172 g142 g143 g144 y3010 y3171 y3011 H.size k3016 k3174 hy3011 H_fw_W H_fw_L k146 k147 k148) (cwV 4 hts gX11_plans_X11_isNext rfl rfl rfl ⟨rfl, hdX11_isNext⟩ ⟨Nat.le_of_ble_eq_true rfl, Nat.le_of_ble_eq_true rfl⟩) ⟨kBlind, va_recv hK hPc (ci := 10) (q0 := 0) rfl rfl, fun U hU hW => ⟨rfl, by rw [hU], hN.warm hW, hE.pass hS hFc hW hU, by rw [hU]; exact hPc, va_K.moved hW.alike hK, hDc⟩⟩ rfl rfl hl.1 rfl (lv_room (Nat.le_of_ble_eq_true rfl)) dX11_plans_58 ⟨Nat.le_of_ble_eq_true rfl, Nat.le_of_ble_eq_true rfl⟩) (fun r3175 u H locs hw hP hD hS => ?_)
        obtain ⟨g3176, rfl⟩ : ∃ z, z = u := ⟨_, rfl⟩
        have hP : va_P D vwCl [(ag, .inl (cI, 10, .inl g3012)), (aW, .inl (cJ, 4096, .inr (.inl g129))), (h, oX11 th aw ai ab ac hi re aP ta po en be de fa a5 sp av an ak x140 aW aC ag aT aN aF), (aw, .inl (cI, 2179, .inl fw)), (av, .inl (cI, 400, .inl g3176)), (an, .inl (cI, 10, .inl g142)), (ak, .inl (cI, 10, .inl g143)), (aC, .inl (cI, 4096, .inl g144))] H := hP
        have hD : va_D A [(ag, .inl (cI, 10, .inl g3012)), (aW, .inl (cJ, 4096, .inr (.inl g129))), (h, oX11 th aw ai ab ac hi re aP ta po en be de fa a5 sp av an ak x140 aW aC ag aT aN aF), (aw, .inl (cI, 2179, .inl fw)), (av, .inl (cI, 400, .inl g3176)), (an, .inl (cI, 10, .inl g142)), (ak, .inl (cI, 10, .inl g143)), (aC, .inl (cI, 4096, .inl g144))] := hD
        rcases hw with ⟨rfl, kc3177_0⟩ | ⟨rfl, kc3177_0⟩
        · skip
          refine lv_if_ne (tgt := 70) hx hb dX11_plans_61 (by decide) (fun c3178 => absurd (by decide) c3178) (fun _ => ?_)
          obtain ⟨x3179, ex3179⟩ : ∃ y : Int32, y = y3171 + 1 := ⟨_, rfl⟩
          refine lv_iinc (v := x3179) (lv' := [(4, .int x3179), (3, .int y3010), (2, .int y3011), (0, .ref h), (1, .int 1)]) hx hb dX11_plans_64 hl (k := 0) rfl (by rw [ex3179]; rfl) (by decide) rfl (fun ls hl => ?_)
          have k3180 : Rg x3179 1 12 := rg_add ex3179 k3174 (rg_lit (n := 1) (by decide)) (by decide)
          refine lv_goto (tgt := 52) hx hb dX11_plans_67 (by decide) ?_
          exact ih3173 (x3179, g3176) _ _ _ (by show (12 - (x3179).toInt).toNat < (12 - (y3171).toInt).toNat; exact mu_up ex3179 k3174 k3180 (by decide)) ⟨(ex_next hX52_0 kc3177_0 (ti_add (Y := 1) ex3179 k3174 (rg_lit (n := 1) (by decide)) (by decide) rfl (by decide))), (rg_w k3180 (by decide)), hP.sub (ws' := [(ag, .inl (cI, 10, .inl g3012)), (aW, .inl (cJ, 4096, .inr (.inl g129))), (h, oX11 th aw ai ab ac hi re aP ta po en be de fa a5 sp av an ak x140 aW aC ag aT aN aF), (aw, .inl (cI, 2179, .inl fw)), (av, .inl (cI, 400, .inl g3176)), (an, .inl (cI, 10, .inl g142)), (ak, .inl (cI, 10, .inl g143)), (aC, .inl (cI, 4096, .inl g144))]) [0, 1, 2, 3, 4, 5, 6, 7] rfl, hD.sub (ws' := [(ag, .inl (cI, 10, .inl g3012)), (aW, .inl (cJ, 4096, .inr (.inl g129))), (h, oX11 th aw ai ab ac hi re aP ta po en be de fa a5 sp av an ak x140 aW aC ag aT aN aF), (aw, .inl (cI, 2179, .inl fw)), (av, .inl (cI, 400, .inl g3176)), (an, .inl (cI, 10, .inl g142)), (ak, .inl (cI, 10, .inl g143)), (aC, .inl (cI, 4096, .inl g144))]) [0, 1, 2, 3, 4, 5, 6, 7] (by decide) rfl, hS, lv_sub (l' := [(4, .int x3179), (3, .int y3010), (2, .int y3011), (0, .ref h), (1, .int 1)]) hl [0, 1, 2, 3, 4] rfl⟩
        · skip
          refine lv_if_ne (tgt := 70) hx hb dX11_plans_61 (by decide) (fun _ => ?_) (fun c3181 => absurd c3181 (by decide))
          refine lv_aload_n hx hb dX11_plans_70 rfl (lv_at hl 3 rfl) ?_
          refine va_get (D := D) (ci := 10) (v := .ref ag) (C := RX11) (T := TX11) (N := 26) hx hb hts iG_X11 hown hK hP 2 rfl rfl 22 (by decide) (hts _ w5_16) (fun _ h9 => h9) rfl dX11_plans_71 ?_
          refine lv_aload_n hx hb dX11_plans_74 rfl (lv_at hl 3 rfl) ?_
          refine va_get (D := D) (ci := 10) (v := .ref an) (C := RX11) (T := TX11) (N := 26) hx hb hts iG_X11 hown hK hP 2 rfl rfl 17 (by decide) (hts _ w5_12) (fun _ h9 => h9) rfl dX11_plans_75 ?_
          refine lv_iload_n hx hb dX11_plans_78 rfl (lv_at hl 1 rfl) ?_
          refine va_iald hx hb hK hP 5 0 rfl rfl (rg_in k3016 (by decide)) dX11_plans_79 ?_
          refine lv_topi (fun x3182 ex3182 => ?_)
          have k3183 : Rg x3182 0 9 := wN_rd k146 ex3182
          refine lv_iload hx hb dX11_plans_80 (lv_at hl 0 rfl) ?_
          refine va_iast hx hb hK hP hD hS 0 0 rfl rfl (rg_in k3183 (by decide)) dX11_plans_82 (fun H locs hP hD hS => ?_)
          have hP : va_P D vwCl [(ag, .inl (cI, 10, .inl (upd g3012 x3182.toNatClampNeg y3171))), (aW, .inl (cJ, 4096, .inr (.inl g129))), (h, oX11 th aw ai ab ac hi re aP ta po en be de fa a5 sp av an ak x140 aW aC ag aT aN aF), (aw, .inl (cI, 2179, .inl fw)), (av, .inl (cI, 400, .inl g3176)), (an, .inl (cI, 10, .inl g142)), (ak, .inl (cI, 10, .inl g143)), (aC, .inl (cI, 4096, .inl g144))] H := hP
          have hD : va_D A [(ag, .inl (cI, 10, .inl (upd g3012 x3182.toNatClampNeg y3171))), (aW, .inl (cJ, 4096, .inr (.inl g129))), (h, oX11 th aw ai ab ac hi re aP ta po en be de fa a5 sp av an ak x140 aW aC ag aT aN aF), (aw, .inl (cI, 2179, .inl fw)), (av, .inl (cI, 400, .inl g3176)), (an, .inl (cI, 10, .inl g142)), (ak, .inl (cI, 10, .inl g143)), (aC, .inl (cI, 4096, .inl g144))] := hD
          generalize hg3184 : (upd g3012 x3182.toNatClampNeg y3171) = g3184 at hP hD
          refine lv_iload_n hx hb dX11_plans_83 rfl (lv_at hl 2 rfl) ?_
          refine lv_iconst (v := 1) hx hb dX11_plans_84 (by decide) ?_
          refine lv_iload hx hb dX11_plans_85 (lv_at hl 0 rfl) ?_
          refine lv_ishl hx hb dX11_plans_87 ?_
          refine lv_topi (fun x3185 ex3185 => ?_)
          have k3186 : Rg x3185 1 2048 := rg_shl1 11 ex3185 k3174 (by decide)
          refine lv_ior hx hb dX11_plans_88 ?_
          refine lv_topi (fun x3187 ex3187 => ?_)
          have k3188 : Rg x3187 0 4095 := rg_or 12 ex3187 hy3011 k3186 (by decide)
          refine lv_istore_n (lv' := [(2, .int x3187), (4, .int y3171), (3, .int y3010), (0, .ref h), (1, .int 1)]) hx hb dX11_plans_89 rfl hl (by decide) rfl (fun ls hl => ?_)
          obtain ⟨x3189, ex3189⟩ : ∃ y : Int32, y = y3010 + 1 := ⟨_, rfl⟩
          refine lv_iinc (v := x3189) (lv' := [(3, .int x3189), (2, .int x3187), (4, .int y3171), (0, .ref h), (1, .int 1)]) hx hb dX11_plans_90 hl (k := 2) rfl (by rw [ex3189]; rfl) (by decide) rfl (fun ls hl => ?_)
          have k3190 : Rg x3189 1 10 := rg_add ex3189 k3016 (rg_lit (n := 1) (by decide)) (by decide)
          refine lv_goto (tgt := 41) hx hb dX11_plans_93 (by decide) ?_
          exact ih3014 (x3189, x3187, g3184, g3176) _ _ _ (by show (10 - (x3189).toInt).toNat < (10 - (y3010).toInt).toNat; exact mu_up ex3189 k3016 k3190 (by decide)) ⟨(by rw [(or_bit ex3185 ex3187 hy3011 k3174).1, pop_or kc3177_0.1.2 (by have q1 := k3174; unfold Rg at q1; simp only [cN]; omega), hX41_0]; exact (s1_cN (by have q1 := k3016; unfold Rg at q1; omega) (ti_add (Y := 1) ex3189 k3016 (rg_lit (n := 1) (by decide)) (by decide) rfl (by decide))).symm), (lt_cn (by rw [(or_bit ex3185 ex3187 hy3011 k3174).1]; exact Nat.or_lt_two_pow (cn_lt hX41_1 (by have q1 := hy3011; unfold Rg at q1; omega)) (Nat.pow_lt_pow_right (by omega) (lt_of_ex hX52_0 (by have q1 := k3174; unfold Rg at q1; omega))))), (by rw [(or_bit ex3185 ex3187 hy3011 k3174).1]; have q1 : (cF fw (g142 (cN y3010)) (nI (cN y3171))).toInt + (g144 (cN y3011 ||| 2 ^ cN y3171)).toInt = (g144 (cN y3011)).toInt := kc3177_0.2.2; have q2 := kc3177_0.2.1; have q3 := (cF_b (m := g142 (cN y3010)) (s := nI (cN y3171)) H_fw_L).1; omega), (gets_step hX41_3 hg3184 k3174 (cl_of (k := cN x3182) k3183 (by decide) (by simp only [cN]; have q1 := k3183; unfold Rg at q1; omega)) (by rw [ex3182, (cl_of (k := cN y3010) k3016 (by decide) (by simp only [cN]; have q1 := k3016; unfold Rg at q1; omega))]) (s1_cN (by have q1 := k3016; unfold Rg at q1; omega) (ti_add (Y := 1) ex3189 k3016 (rg_lit (n := 1) (by decide)) (by decide) rfl (by decide)))), (by have q1 := (nleI c3015); have q2 := (ti_add (Y := 1) ex3189 k3016 (rg_lit (n := 1) (by decide)) (by decide) rfl (by decide)); omega), (rg_w k3190 (by decide)), k3188, hP.sub (ws' := [(ag, .inl (cI, 10, .inl g3184)), (aW, .inl (cJ, 4096, .inr (.inl g129))), (h, oX11 th aw ai ab ac hi re aP ta po en be de fa a5 sp av an ak x140 aW aC ag aT aN aF), (aw, .inl (cI, 2179, .inl fw)), (av, .inl (cI, 400, .inl g3176)), (an, .inl (cI, 10, .inl g142)), (ak, .inl (cI, 10, .inl g143)), (aC, .inl (cI, 4096, .inl g144))]) [0, 1, 2, 3, 4, 5, 6, 7] rfl, hD.sub (ws' := [(ag, .inl (cI, 10, .inl g3184)), (aW, .inl (cJ, 4096, .inr (.inl g129))), (h, oX11 th aw ai ab ac hi re aP ta po en be de fa a5 sp av an ak x140 aW aC ag aT aN aF), (aw, .inl (cI, 2179, .inl fw)), (av, .inl (cI, 400, .inl g3176)), (an, .inl (cI, 10, .inl g142)), (ak, .inl (cI, 10, .inl g143)), (aC, .inl (cI, 4096, .inl g144))]) [0, 1, 2, 3, 4, 5, 6, 7] (by decide) rfl, hS, lv_sub (l' := [(3, .int x3189), (2, .int x3187), (0, .ref h), (1, .int 1)]) hl [0, 1, 3, 4] rfl⟩
    · skip
      have k3191 : Rg x136 0 0 := rg_q1 (eqI c138) k137 (rg_lit (n := 0) (by decide)) (by decide)
      refine lv_iconst (v := 0) hx hb dX11_plans_30 (by decide) ?_
      have hP9 := hP.sub (ws' := [(h, oX11 th aw ai ab ac hi re aP ta po en be de fa a5 sp av an ak x125 aW aC ag aT aN aF), (aw, .inl (cI, 2179, .inl fw)), (av, .inl (cI, 400, .inl g126)), (an, .inl (cI, 10, .inl g127)), (ak, .inl (cI, 10, .inl g128)), (aW, .inl (cJ, 4096, .inr (.inl g129))), (aC, .inl (cI, 4096, .inl fC)), (ag, .inl (cI, 10, .inl g120))]) [2, 3, 4, 5, 6, 7, 0, 1] rfl
      have hD9 := hD.sub (ws' := [(h, oX11 th aw ai ab ac hi re aP ta po en be de fa a5 sp av an ak x125 aW aC ag aT aN aF), (aw, .inl (cI, 2179, .inl fw)), (av, .inl (cI, 400, .inl g126)), (an, .inl (cI, 10, .inl g127)), (ak, .inl (cI, 10, .inl g128)), (aW, .inl (cJ, 4096, .inr (.inl g129))), (aC, .inl (cI, 4096, .inl fC)), (ag, .inl (cI, 10, .inl g120))]) [2, 3, 4, 5, 6, 7, 0, 1] (by decide) rfl
      exact W.zret (v := 0) hx hb hr (by decide) (fun t ht hW => ⟨⟨0, (x125, g126, g127, g128, g129, fC, g120), rfl, ⟨k130, k131, k132, H_fC_F, (Or.inl rfl)⟩, by rw [ht]; exact hP9, va_K.moved hW.alike hK, hD9⟩, hS.F ht⟩) hS.2.2 dX11_plans_31
  · skip
    have k3192 : Rg y119 0 9 := rg_l1 (nleI c122) hy119 (rg_lit (n := 10) (by decide)) (by decide)
    refine lv_aload_n hx hb dX11_plans_8 rfl (lv_at hl 1 rfl) ?_
    refine va_get (D := D) (ci := 10) (v := .ref ag) (C := RX11) (T := TX11) (N := 26) hx hb hts iG_X11 hown hK hP 0 rfl rfl 22 (by decide) (hts _ w5_16) (fun _ h9 => h9) rfl dX11_plans_9 ?_
    refine lv_iload_n hx hb dX11_plans_12 rfl (lv_at hl 0 rfl) ?_
    refine lv_iconst (v := (-1)) hx hb dX11_plans_13 (by decide) ?_
    refine va_iast hx hb hK hP hD hS 7 0 rfl rfl (rg_in k3192 (by decide)) dX11_plans_14 (fun H locs hP hD hS => ?_)
    have hP : va_P D vwCl [(h, oX11 th aw ai ab ac hi re aP ta po en be de fa a5 sp av an ak ne aW aC ag aT aN aF), (aw, .inl (cI, 2179, .inl fw)), (av, .inl (cI, 400, .inl fv)), (an, .inl (cI, 10, .inl fn)), (ak, .inl (cI, 10, .inl fk)), (aW, .inl (cJ, 4096, .inr (.inl fW))), (aC, .inl (cI, 4096, .inl fC)), (ag, .inl (cI, 10, .inl (upd g120 y119.toNatClampNeg (-1))))] H := hP
    have hD : va_D A [(h, oX11 th aw ai ab ac hi re aP ta po en be de fa a5 sp av an ak ne aW aC ag aT aN aF), (aw, .inl (cI, 2179, .inl fw)), (av, .inl (cI, 400, .inl fv)), (an, .inl (cI, 10, .inl fn)), (ak, .inl (cI, 10, .inl fk)), (aW, .inl (cJ, 4096, .inr (.inl fW))), (aC, .inl (cI, 4096, .inl fC)), (ag, .inl (cI, 10, .inl (upd g120 y119.toNatClampNeg (-1))))] := hD
    generalize hg3193 : (upd g120 y119.toNatClampNeg (-1)) = g3193 at hP hD
    obtain ⟨x3194, ex3194⟩ : ∃ y : Int32, y = y119 + 1 := ⟨_, rfl⟩
    refine lv_iinc (v := x3194) (lv' := [(2, .int x3194), (0, .ref h), (1, .int 1)]) hx hb dX11_plans_15 hl (k := 0) rfl (by rw [ex3194]; rfl) (by decide) rfl (fun ls hl => ?_)
    have k3195 : Rg x3194 1 10 := rg_add ex3194 k3192 (rg_lit (n := 1) (by decide)) (by decide)
    refine lv_goto (tgt := 2) hx hb dX11_plans_18 (by decide) ?_
    exact ih121 (x3194, g3193) _ _ _ (by show (10 - (x3194).toInt).toNat < (10 - (y119).toInt).toNat; exact mu_up ex3194 k3192 k3195 (by decide)) ⟨(rg_w k3195 (by decide)), hP.sub (ws' := [(h, oX11 th aw ai ab ac hi re aP ta po en be de fa a5 sp av an ak ne aW aC ag aT aN aF), (aw, .inl (cI, 2179, .inl fw)), (av, .inl (cI, 400, .inl fv)), (an, .inl (cI, 10, .inl fn)), (ak, .inl (cI, 10, .inl fk)), (aW, .inl (cJ, 4096, .inr (.inl fW))), (aC, .inl (cI, 4096, .inl fC)), (ag, .inl (cI, 10, .inl g3193))]) [0, 1, 2, 3, 4, 5, 6, 7] rfl, hD.sub (ws' := [(h, oX11 th aw ai ab ac hi re aP ta po en be de fa a5 sp av an ak ne aW aC ag aT aN aF), (aw, .inl (cI, 2179, .inl fw)), (av, .inl (cI, 400, .inl fv)), (an, .inl (cI, 10, .inl fn)), (ak, .inl (cI, 10, .inl fk)), (aW, .inl (cJ, 4096, .inr (.inl fW))), (aC, .inl (cI, 4096, .inl fC)), (ag, .inl (cI, 10, .inl g3193))]) [0, 1, 2, 3, 4, 5, 6, 7] (by decide) rfl, hS, lv_sub (l' := [(2, .int x3194), (0, .ref h), (1, .int 1)]) hl [0, 1, 2] rfl⟩

