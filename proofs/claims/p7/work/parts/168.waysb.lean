def kwX11_least : List Cond := .code yX11_least cX11_least 2 (some .int) :: kG
theorem hdX11_least : yX11_least.cls ≠ "java/lang/invoke/MethodHandle" ∧ yX11_least.cls ≠ "java/lang/invoke/VarHandle" ∧ (parseMethodDescriptor yX11_least.desc).map (fun d => d.parameters.length) = some 0 := by decide +kernel
theorem gX11_least_X11_leastCost : GoodIn kG (wsV RX11 335 RX11 yX11_leastCost kwX11_leastCost) := gK w42_16 (gK w42_17 (gK w42_18 (gK w0_5 (gK w42_19 gGG))))
theorem dX11_least_0 : decode cX11_least 0 = .ok (.aload_n 0, 1) := by decide +kernel
theorem dX11_least_1 : decode cX11_least 1 = .ok (.iconst 0, 1) := by decide +kernel
theorem dX11_least_2 : decode cX11_least 2 = .ok (.putfield 3, 3) := by decide +kernel
theorem dX11_least_5 : decode cX11_least 5 = .ok (.aload_n 0, 1) := by decide +kernel
theorem dX11_least_6 : decode cX11_least 6 = .ok (.invokevirtual 335, 3) := by decide +kernel
theorem dX11_least_9 : decode cX11_least 9 = .ok (.istore_n 1, 1) := by decide +kernel
theorem dX11_least_10 : decode cX11_least 10 = .ok (.iload_n 1, 1) := by decide +kernel
theorem dX11_least_11 : decode cX11_least 11 = .ok (.ldc_w 334, 3) := by decide +kernel
theorem dX11_least_14 : decode cX11_least 14 = .ok (.if_icmp .lt 7, 3) := by decide +kernel
theorem dX11_least_17 : decode cX11_least 17 = .ok (.iconst (-1), 1) := by decide +kernel
theorem dX11_least_18 : decode cX11_least 18 = .ok (.goto 4, 3) := by decide +kernel
theorem dX11_least_21 : decode cX11_least 21 = .ok (.iload_n 1, 1) := by decide +kernel
theorem dX11_least_22 : decode cX11_least 22 = .ok (.ireturn, 1) := by decide +kernel
set_option maxHeartbeats 4000000 in
set_option maxRecDepth 100000 in
/-- reference: least -/
theorem r_least (l : Launch) (D : va_G) (cI cJ cB cC : ClassId) (h : Nat) (th : Int32) (aw : Nat) (ai : Nat) (ab : Nat) (ac : Nat) (hi : Int32) (re : Int32) (aP : Nat) (ta : Int32) (po : Int32) (en : Int32) (be : Int32) (de : Int32) (fa : Int32) (a5 : Nat) (sp : Int32) (av : Nat) (an : Nat) (ak : Nat) (ne : Int32) (aW : Nat) (aC : Nat) (ag : Nat) (aT : Nat) (aN : Nat) (aF : Nat) (fw : Nat → Int32) (fv : Nat → Int32) (fn : Nat → Int32) (fk : Nat → Int32) (fC : Nat → Int32) (sz : Nat) (H_fw_W : wW fw) (H_fw_L : wL fw) (H_fn_N : wN fn) : Met l yX11_least kwX11_least ({ frames := 9, cells := 0, slots := 0, locals := 211 } : Room) (kPre D (kT cI cJ cB cC) sz [(h, oX11 th aw ai ab ac hi re aP ta po en be de fa a5 sp av an ak ne aW aC ag aT aN aF), (aw, kcI cI 2179 fw), (av, kcI cI 400 fv), (an, kcI cI 10 fn), (ak, kcI cI 10 fk), (aC, kcI cI 4096 fC)] [.ref h]) (va_Qi (fun (r : Int32) (uu : Int32 × (Nat → Int32) × (Nat → Int32) × (Nat → Int32) × (Nat → Int32)) => match uu with | (n0_, f1_, f2_, f3_, f4_) => Rg n0_ 0 10 ∧ wN f2_ ∧ Rg r (-2147483648) 999999 ∧ F_r_least (gT fw) (gT fv) (gT fn) (gT fk) (gT fC) = ((r : Int32).toInt, (n0_ : Int32).toInt, (gT f1_), (gT f2_), (gT f3_), (gT f4_))) (fun (uu : Int32 × (Nat → Int32) × (Nat → Int32) × (Nat → Int32) × (Nat → Int32)) (t : State) => match uu with | (n0_, f1_, f2_, f3_, f4_) => kB D (kT cI cJ cB cC) (va_A [(h, oX11 th aw ai ab ac hi re aP ta po en be de fa a5 sp av an ak ne aW aC ag aT aN aF), (aw, kcI cI 2179 fw), (av, kcI cI 400 fv), (an, kcI cI 10 fn), (ak, kcI cI 10 fk), (aC, kcI cI 4096 fC)] sz) [(h, oX11 0 aw ai ab ac hi re aP ta po en be de fa a5 sp av an ak n0_ aW aC ag aT aN aF), (aw, kcI cI 2179 fw), (av, kcI cI 400 f1_), (an, kcI cI 10 f2_), (ak, kcI cI 10 f3_), (aC, kcI cI 4096 f4_)] t) (va_A [(h, oX11 th aw ai ab ac hi re aP ta po en be de fa a5 sp av an ak ne aW aC ag aT aN aF), (aw, kcI cI 2179 fw), (av, kcI cI 400 fv), (an, kcI cI 10 fn), (ak, kcI cI 10 fk), (aC, kcI cI 4096 fC)] sz)) 0 0 (va_A [(h, oX11 th aw ai ab ac hi re aP ta po en be de fa a5 sp av an ak ne aW aC ag aT aN aF), (aw, kcI cI 2179 fw), (av, kcI cI 400 fv), (an, kcI cI 10 fn), (ak, kcI cI 10 fk), (aC, kcI cI 4096 fC)] sz) := by
  refine Met.ofW (cc := cX11_least) (maxL := 2) (ret := (some .int)) (by decide) rfl ?_
  intro p e s m args below meth c s₁ B hml hv
  obtain ⟨rfl, hsz, hN, hE, hP, hK, hD0⟩ := hv
  have hx := B.exec
  have hb := B.bytes
  have hr := B.returns
  have hts := fun (w : Cond) (h : w ∈ kG) => atoms_spec (ws := kwX11_least) B.pre w (List.mem_cons_of_mem _ h)
  have hown : s.vm.findClass RX11 = some m.cls := findClass_of_methodNamed B.named
  subst hsz
  have hD := hD0.self (sz := s.heap.size)
  generalize hAe : va_A [(h, oX11 th aw ai ab ac hi re aP ta po en be de fa a5 sp av an ak ne aW aC ag aT aN aF), (aw, kcI cI 2179 fw), (av, kcI cI 400 fv), (an, kcI cI 10 fn), (ak, kcI cI 10 fk), (aC, kcI cI 4096 fC)] s.heap.size = A at hD hE ⊢
  have hA : ∀ q : Nat, s.heap.size ≤ q → A q := fun q h => by rw [← hAe]; exact Or.inr h
  have hl := lv_entry ([.ref h]) (n := 2) (Nat.le_of_ble_eq_true rfl)
  rw [lg_entry_eq]
  generalize (lg_sl ([.ref h]) ++ List.replicate (2 - (lg_sl ([.ref h])).length) Slot.unset).toArray = ls at hl ⊢
  have hl : lv_has ls 2 [(0, .ref h)] := hl
  obtain ⟨H, hH0⟩ : ∃ H, H = s.heap := ⟨_, rfl⟩
  have hS : va_S A s.heap H [] := by rw [hH0]; exact va_S.rf
  have hP : va_P D vwCl [(h, oX11 th aw ai ab ac hi re aP ta po en be de fa a5 sp av an ak ne aW aC ag aT aN aF), (aw, kcI cI 2179 fw), (av, kcI cI 400 fv), (an, kcI cI 10 fn), (ak, kcI cI 10 fk), (aC, kcI cI 4096 fC)] H := by rw [hH0]; exact hP
  refine kHeap hH0 ?_
  clear hH0
  refine lv_aload_n hx hb dX11_least_0 rfl (lv_at hl 0 rfl) ?_
  refine lv_iconst (v := 0) hx hb dX11_least_1 (by decide) ?_
  refine va_put (D := D) (ci := 10) (v := .int 0) (ty := .int) (C := RX11) (T := TX11) (N := 26) hx hb hts iG_X11 tyX11 tyX11_ok nmX11 hown hK hP hD hS 0 rfl rfl 0 (by decide) (hts _ w6_8) (fun _ h9 => h9) rfl (by decide +kernel) rfl rfl (Nat.le_of_ble_eq_true rfl) dX11_least_2 (fun H locs hP hD hS => ?_)
  have hP : va_P D vwCl [(h, oX11 0 aw ai ab ac hi re aP ta po en be de fa a5 sp av an ak ne aW aC ag aT aN aF), (aw, kcI cI 2179 fw), (av, kcI cI 400 fv), (an, kcI cI 10 fn), (ak, kcI cI 10 fk), (aC, kcI cI 4096 fC)] H := hP
  have hD : va_D A [(h, oX11 0 aw ai ab ac hi re aP ta po en be de fa a5 sp av an ak ne aW aC ag aT aN aF), (aw, kcI cI 2179 fw), (av, kcI cI 400 fv), (an, kcI cI 10 fn), (ak, kcI cI 10 fk), (aC, kcI cI 4096 fC)] := hD
  refine lv_aload_n hx hb dX11_least_5 rfl (lv_at hl 0 rfl) ?_
  refine kcalli (wc := [(h, oX11 0 aw ai ab ac hi re aP ta po en be de fa a5 sp av an ak ne aW aC ag aT aN aF), (aw, kcI cI 2179 fw), (av, kcI cI 400 fv), (an, kcI cI 10 fn), (ak, kcI cI 10 fk), (aC, kcI cI 4096 fC)]) (wr := []) hP hD hS hA [0, 1, 2, 3, 4, 5] [] rfl rfl (by decide) (by decide) (by decide) (fun hPc hDc hFc => va_runV (As := []) (rest := []) ⟨hx, hb, hml, hown, hts⟩ (r_leastCost l D cI cJ cB cC h 0 aw ai ab ac hi re aP ta po en be de fa a5 sp av an ak ne aW aC ag aT aN aF fw fv fn fk fC H.size H_fw_W H_fw_L H_fn_N) (cwV 0 hts gX11_least_X11_leastCost rfl rfl rfl ⟨rfl, hdX11_leastCost⟩ ⟨Nat.le_of_ble_eq_true rfl, Nat.le_of_ble_eq_true rfl⟩) ⟨kBlind, va_recv hK hPc (ci := 10) (q0 := 0) rfl rfl, fun U hU hW => ⟨rfl, by rw [hU], hN.warm hW, hE.pass hS hFc hW hU, by rw [hU]; exact hPc, va_K.moved hW.alike hK, hDc⟩⟩ rfl rfl hl.1 rfl (lv_room (Nat.le_of_ble_eq_true rfl)) dX11_least_6 ⟨Nat.le_of_ble_eq_true rfl, Nat.le_of_ble_eq_true rfl⟩) (fun r1 u H locs hw hP hD hS => ?_)
  obtain ⟨x2, g3, g4, g5, g6⟩ := u
  have hP : va_P D vwCl [(h, oX11 0 aw ai ab ac hi re aP ta po en be de fa a5 sp av an ak x2 aW aC ag aT aN aF), (aw, kcI cI 2179 fw), (av, kcI cI 400 g3), (an, kcI cI 10 g4), (ak, kcI cI 10 g5), (aC, kcI cI 4096 g6)] H := hP
  have hD : va_D A [(h, oX11 0 aw ai ab ac hi re aP ta po en be de fa a5 sp av an ak x2 aW aC ag aT aN aF), (aw, kcI cI 2179 fw), (av, kcI cI 400 g3), (an, kcI cI 10 g4), (ak, kcI cI 10 g5), (aC, kcI cI 4096 g6)] := hD
  obtain ⟨k7, k8, k9⟩ := hw
  refine lv_istore_n (lv' := [(1, .int r1), (0, .ref h)]) hx hb dX11_least_9 rfl hl (by decide) rfl (fun ls hl => ?_)
  refine lv_iload_n hx hb dX11_least_10 rfl (lv_at hl 0 rfl) ?_
  refine lv_ldcw (v := 1000000) hx hb hown (hts _ w42_20) dX11_least_11 ?_
  refine k_join (hd := 22) (cells2 := 0) (slots2 := 0) (fun (z14 : Int32) => [.int z14]) (fun (z14 : Int32) (H : Heap) (locs : List Loc) (ls : Array Slot) => (F_r_least (gT fw) (gT fv) (gT fn) (gT fk) (gT fC) = F_r_least_j1 x2.toInt (gT g3) (gT g4) (gT g5) (gT g6) z14.toInt) ∧ Rg z14 (-2147483648) 999999 ∧ va_P D vwCl [(h, oX11 0 aw ai ab ac hi re aP ta po en be de fa a5 sp av an ak x2 aW aC ag aT aN aF), (aw, kcI cI 2179 fw), (av, kcI cI 400 g3), (an, kcI cI 10 g4), (ak, kcI cI 10 g5), (aC, kcI cI 4096 g6)] H ∧ va_D A [(h, oX11 0 aw ai ab ac hi re aP ta po en be de fa a5 sp av an ak x2 aW aC ag aT aN aF), (aw, kcI cI 2179 fw), (av, kcI cI 400 g3), (an, kcI cI 10 g4), (ak, kcI cI 10 g5), (aC, kcI cI 4096 g6)] ∧ va_S A s.heap H locs ∧ lv_has ls 2 [(1, .int r1), (0, .ref h)]) (fun u H locs ls hI => ?_) (fun hJ22 => ?_)
  · skip
    clear hP hD hS hl
    obtain ⟨z14, rfl⟩ : ∃ z, z = u := ⟨_, rfl⟩
    obtain ⟨hF1, hz14, hP, hD, hS, hl⟩ := hI
    have hP : va_P D vwCl [(h, oX11 0 aw ai ab ac hi re aP ta po en be de fa a5 sp av an ak x2 aW aC ag aT aN aF), (aw, kcI cI 2179 fw), (av, kcI cI 400 g3), (an, kcI cI 10 g4), (ak, kcI cI 10 g5), (aC, kcI cI 4096 g6)] H := hP
    have hD : va_D A [(h, oX11 0 aw ai ab ac hi re aP ta po en be de fa a5 sp av an ak x2 aW aC ag aT aN aF), (aw, kcI cI 2179 fw), (av, kcI cI 400 g3), (an, kcI cI 10 g4), (ak, kcI cI 10 g5), (aC, kcI cI 4096 g6)] := hD
    have hl : lv_has ls 2 [(1, .int r1), (0, .ref h)] := hl
    show W _ _ _ _ _ _ _ _ _ _ _ _ _ _ _ (F0 m 22 ls [.int z14])
    have hP9 := hP.sub (ws' := [(h, oX11 0 aw ai ab ac hi re aP ta po en be de fa a5 sp av an ak x2 aW aC ag aT aN aF), (aw, kcI cI 2179 fw), (av, kcI cI 400 g3), (an, kcI cI 10 g4), (ak, kcI cI 10 g5), (aC, kcI cI 4096 g6)]) [0, 1, 2, 3, 4, 5] rfl
    have hD9 := hD.sub (ws' := [(h, oX11 0 aw ai ab ac hi re aP ta po en be de fa a5 sp av an ak x2 aW aC ag aT aN aF), (aw, kcI cI 2179 fw), (av, kcI cI 400 g3), (an, kcI cI 10 g4), (ak, kcI cI 10 g5), (aC, kcI cI 4096 g6)]) [0, 1, 2, 3, 4, 5] (by decide) rfl
    exact W.iret (v := z14) hx hb hr (fun t ht hW => ⟨⟨z14, (x2, g3, g4, g5, g6), rfl, ⟨k7, k8, hz14, (hF1.trans rfl)⟩, by rw [ht]; exact hP9, va_K.moved hW.alike hK, hD9⟩, hS.F ht⟩) hS.2.2 dX11_least_22
  refine lv_icmp_lt (tgt := 21) hx hb dX11_least_14 (by decide) (fun c15 => ?_) (fun c15 => ?_)
  · skip
    have k16 : Rg r1 (-2147483648) 999999 := rg_l1 (ltI c15) (rg_any r1) (rg_lit (n := 1000000) (by decide)) (by decide)
    refine lv_iload_n hx hb dX11_least_21 rfl (lv_at hl 0 rfl) ?_
    exact hJ22 (r1) _ _ _ ⟨(kC_eq k9 (kC_eq rfl (kC_eq rfl (kC_eq rfl (kC_eq rfl (kif_t (ltI c15) rfl)))))), k16, hP.sub (ws' := [(h, oX11 0 aw ai ab ac hi re aP ta po en be de fa a5 sp av an ak x2 aW aC ag aT aN aF), (aw, kcI cI 2179 fw), (av, kcI cI 400 g3), (an, kcI cI 10 g4), (ak, kcI cI 10 g5), (aC, kcI cI 4096 g6)]) [0, 1, 2, 3, 4, 5] rfl, hD.sub (ws' := [(h, oX11 0 aw ai ab ac hi re aP ta po en be de fa a5 sp av an ak x2 aW aC ag aT aN aF), (aw, kcI cI 2179 fw), (av, kcI cI 400 g3), (an, kcI cI 10 g4), (ak, kcI cI 10 g5), (aC, kcI cI 4096 g6)]) [0, 1, 2, 3, 4, 5] (by decide) rfl, hS, lv_sub (l' := [(1, .int r1), (0, .ref h)]) hl [0, 1] rfl⟩
  · skip
    have k17 : Rg r1 1000000 2147483647 := rg_e2 (nltI c15) (rg_lit (n := 1000000) (by decide)) (rg_any r1) (by decide)
    refine lv_iconst (v := (-1)) hx hb dX11_least_17 (by decide) ?_
    refine lv_goto (tgt := 22) hx hb dX11_least_18 (by decide) ?_
    exact hJ22 ((-1 : Int32)) _ _ _ ⟨(kC_eq k9 (kC_eq rfl (kC_eq rfl (kC_eq rfl (kC_eq rfl (kif_f (xF_lt c15) rfl)))))), (rg_w (rg_lit (n := -1) (by decide)) (by decide)), hP.sub (ws' := [(h, oX11 0 aw ai ab ac hi re aP ta po en be de fa a5 sp av an ak x2 aW aC ag aT aN aF), (aw, kcI cI 2179 fw), (av, kcI cI 400 g3), (an, kcI cI 10 g4), (ak, kcI cI 10 g5), (aC, kcI cI 4096 g6)]) [0, 1, 2, 3, 4, 5] rfl, hD.sub (ws' := [(h, oX11 0 aw ai ab ac hi re aP ta po en be de fa a5 sp av an ak x2 aW aC ag aT aN aF), (aw, kcI cI 2179 fw), (av, kcI cI 400 g3), (an, kcI cI 10 g4), (ak, kcI cI 10 g5), (aC, kcI cI 4096 g6)]) [0, 1, 2, 3, 4, 5] (by decide) rfl, hS, lv_sub (l' := [(1, .int r1), (0, .ref h)]) hl [0, 1] rfl⟩

def kwX11_lack : List Cond := .code yX11_lack cX11_lack 5 (some .int) :: kG
theorem hdX11_lack : yX11_lack.cls ≠ "java/lang/invoke/MethodHandle" ∧ yX11_lack.cls ≠ "java/lang/invoke/VarHandle" ∧ (parseMethodDescriptor yX11_lack.desc).map (fun d => d.parameters.length) = some 0 := by decide +kernel
theorem gX11_lack_J6_bitCount_0f7a4 : GoodIn kG (va_wsS RX11 325 yJ6_bitCount_0f7a4 kwJ6_bitCount_0f7a4) := gK w40_20 (gK w39_16 (gK w39_17 (gK w39_18 gGG)))
theorem gX11_lack_X11_allWays : GoodIn kG (wsV RX11 330 RX11 yX11_allWays kwX11_allWays) := gK w40_7 (gK w40_8 (gK w40_9 (gK w0_5 (gK w40_10 gGG))))
theorem gX11_lack_X11_has : GoodIn kG (va_wsS RX11 310 yX11_has kwX11_has) := gK w37_15 (gK w37_16 (gK w0_5 (gK w37_17 gGG)))
theorem dX11_lack_0 : decode cX11_lack 0 = .ok (.aload_n 0, 1) := by decide +kernel
theorem dX11_lack_1 : decode cX11_lack 1 = .ok (.iconst 0, 1) := by decide +kernel
theorem dX11_lack_2 : decode cX11_lack 2 = .ok (.putfield 3, 3) := by decide +kernel
theorem dX11_lack_5 : decode cX11_lack 5 = .ok (.aload_n 0, 1) := by decide +kernel
theorem dX11_lack_6 : decode cX11_lack 6 = .ok (.invokevirtual 330, 3) := by decide +kernel
theorem dX11_lack_9 : decode cX11_lack 9 = .ok (.lconst 0, 1) := by decide +kernel
theorem dX11_lack_10 : decode cX11_lack 10 = .ok (.lcmp, 1) := by decide +kernel
theorem dX11_lack_11 : decode cX11_lack 11 = .ok (.ifCond .le 5, 3) := by decide +kernel
theorem dX11_lack_14 : decode cX11_lack 14 = .ok (.iconst 0, 1) := by decide +kernel
theorem dX11_lack_15 : decode cX11_lack 15 = .ok (.ireturn, 1) := by decide +kernel
theorem dX11_lack_16 : decode cX11_lack 16 = .ok (.iconst 0, 1) := by decide +kernel
theorem dX11_lack_17 : decode cX11_lack 17 = .ok (.istore_n 1, 1) := by decide +kernel
theorem dX11_lack_18 : decode cX11_lack 18 = .ok (.iconst 1, 1) := by decide +kernel
theorem dX11_lack_19 : decode cX11_lack 19 = .ok (.istore_n 2, 1) := by decide +kernel
theorem dX11_lack_20 : decode cX11_lack 20 = .ok (.iload_n 2, 1) := by decide +kernel
theorem dX11_lack_21 : decode cX11_lack 21 = .ok (.iconst 1, 1) := by decide +kernel
theorem dX11_lack_22 : decode cX11_lack 22 = .ok (.aload_n 0, 1) := by decide +kernel
theorem dX11_lack_23 : decode cX11_lack 23 = .ok (.getfield 316, 3) := by decide +kernel
theorem dX11_lack_26 : decode cX11_lack 26 = .ok (.ishl, 1) := by decide +kernel
theorem dX11_lack_27 : decode cX11_lack 27 = .ok (.if_icmp .ge 83, 3) := by decide +kernel
theorem dX11_lack_30 : decode cX11_lack 30 = .ok (.iconst 0, 1) := by decide +kernel
theorem dX11_lack_31 : decode cX11_lack 31 = .ok (.istore_n 3, 1) := by decide +kernel
theorem dX11_lack_32 : decode cX11_lack 32 = .ok (.iconst 0, 1) := by decide +kernel
theorem dX11_lack_33 : decode cX11_lack 33 = .ok (.istore 4, 2) := by decide +kernel
theorem dX11_lack_35 : decode cX11_lack 35 = .ok (.iload 4, 2) := by decide +kernel
theorem dX11_lack_37 : decode cX11_lack 37 = .ok (.aload_n 0, 1) := by decide +kernel
theorem dX11_lack_38 : decode cX11_lack 38 = .ok (.getfield 316, 3) := by decide +kernel
theorem dX11_lack_41 : decode cX11_lack 41 = .ok (.if_icmp .ge 32, 3) := by decide +kernel
theorem dX11_lack_44 : decode cX11_lack 44 = .ok (.iload_n 3, 1) := by decide +kernel
theorem dX11_lack_45 : decode cX11_lack 45 = .ok (.iload_n 2, 1) := by decide +kernel
theorem dX11_lack_46 : decode cX11_lack 46 = .ok (.iload 4, 2) := by decide +kernel
theorem dX11_lack_48 : decode cX11_lack 48 = .ok (.invokestatic 310, 3) := by decide +kernel
theorem dX11_lack_51 : decode cX11_lack 51 = .ok (.ifCond .eq 13, 3) := by decide +kernel
theorem dX11_lack_54 : decode cX11_lack 54 = .ok (.aload_n 0, 1) := by decide +kernel
theorem dX11_lack_55 : decode cX11_lack 55 = .ok (.getfield 42, 3) := by decide +kernel
theorem dX11_lack_58 : decode cX11_lack 58 = .ok (.iload 4, 2) := by decide +kernel
theorem dX11_lack_60 : decode cX11_lack 60 = .ok (.iaload, 1) := by decide +kernel
theorem dX11_lack_61 : decode cX11_lack 61 = .ok (.goto 4, 3) := by decide +kernel
theorem dX11_lack_64 : decode cX11_lack 64 = .ok (.iconst 0, 1) := by decide +kernel
theorem dX11_lack_65 : decode cX11_lack 65 = .ok (.ior, 1) := by decide +kernel
theorem dX11_lack_66 : decode cX11_lack 66 = .ok (.istore_n 3, 1) := by decide +kernel
theorem dX11_lack_67 : decode cX11_lack 67 = .ok (.iinc 4 1, 3) := by decide +kernel
theorem dX11_lack_70 : decode cX11_lack 70 = .ok (.goto (-35), 3) := by decide +kernel
theorem dX11_lack_73 : decode cX11_lack 73 = .ok (.iload_n 3, 1) := by decide +kernel
theorem dX11_lack_74 : decode cX11_lack 74 = .ok (.invokestatic 325, 3) := by decide +kernel
theorem dX11_lack_77 : decode cX11_lack 77 = .ok (.iload_n 2, 1) := by decide +kernel
theorem dX11_lack_78 : decode cX11_lack 78 = .ok (.invokestatic 325, 3) := by decide +kernel
theorem dX11_lack_81 : decode cX11_lack 81 = .ok (.if_icmp .ge 23, 3) := by decide +kernel
theorem dX11_lack_84 : decode cX11_lack 84 = .ok (.iload_n 1, 1) := by decide +kernel
theorem dX11_lack_85 : decode cX11_lack 85 = .ok (.ifCond .le 17, 3) := by decide +kernel
theorem dX11_lack_88 : decode cX11_lack 88 = .ok (.iload_n 2, 1) := by decide +kernel
theorem dX11_lack_89 : decode cX11_lack 89 = .ok (.invokestatic 325, 3) := by decide +kernel
theorem dX11_lack_92 : decode cX11_lack 92 = .ok (.iload_n 1, 1) := by decide +kernel
theorem dX11_lack_93 : decode cX11_lack 93 = .ok (.invokestatic 325, 3) := by decide +kernel
theorem dX11_lack_96 : decode cX11_lack 96 = .ok (.if_icmp .lt 6, 3) := by decide +kernel
theorem dX11_lack_99 : decode cX11_lack 99 = .ok (.goto 5, 3) := by decide +kernel
theorem dX11_lack_102 : decode cX11_lack 102 = .ok (.iload_n 2, 1) := by decide +kernel
theorem dX11_lack_103 : decode cX11_lack 103 = .ok (.istore_n 1, 1) := by decide +kernel
theorem dX11_lack_104 : decode cX11_lack 104 = .ok (.iinc 2 1, 3) := by decide +kernel
theorem dX11_lack_107 : decode cX11_lack 107 = .ok (.goto (-87), 3) := by decide +kernel
theorem dX11_lack_110 : decode cX11_lack 110 = .ok (.iconst 0, 1) := by decide +kernel
theorem dX11_lack_111 : decode cX11_lack 111 = .ok (.istore_n 2, 1) := by decide +kernel
theorem dX11_lack_112 : decode cX11_lack 112 = .ok (.iconst 0, 1) := by decide +kernel
theorem dX11_lack_113 : decode cX11_lack 113 = .ok (.istore_n 3, 1) := by decide +kernel
theorem dX11_lack_114 : decode cX11_lack 114 = .ok (.iload_n 3, 1) := by decide +kernel
theorem dX11_lack_115 : decode cX11_lack 115 = .ok (.aload_n 0, 1) := by decide +kernel
theorem dX11_lack_116 : decode cX11_lack 116 = .ok (.getfield 316, 3) := by decide +kernel
theorem dX11_lack_119 : decode cX11_lack 119 = .ok (.if_icmp .ge 32, 3) := by decide +kernel
theorem dX11_lack_122 : decode cX11_lack 122 = .ok (.iload_n 2, 1) := by decide +kernel
theorem dX11_lack_123 : decode cX11_lack 123 = .ok (.iload_n 1, 1) := by decide +kernel
theorem dX11_lack_124 : decode cX11_lack 124 = .ok (.iload_n 3, 1) := by decide +kernel
theorem dX11_lack_125 : decode cX11_lack 125 = .ok (.invokestatic 310, 3) := by decide +kernel
theorem dX11_lack_128 : decode cX11_lack 128 = .ok (.ifCond .eq 14, 3) := by decide +kernel
theorem dX11_lack_131 : decode cX11_lack 131 = .ok (.iconst 1, 1) := by decide +kernel
theorem dX11_lack_132 : decode cX11_lack 132 = .ok (.aload_n 0, 1) := by decide +kernel
theorem dX11_lack_133 : decode cX11_lack 133 = .ok (.getfield 39, 3) := by decide +kernel
theorem dX11_lack_136 : decode cX11_lack 136 = .ok (.iload_n 3, 1) := by decide +kernel
theorem dX11_lack_137 : decode cX11_lack 137 = .ok (.iaload, 1) := by decide +kernel
theorem dX11_lack_138 : decode cX11_lack 138 = .ok (.ishl, 1) := by decide +kernel
theorem dX11_lack_139 : decode cX11_lack 139 = .ok (.goto 4, 3) := by decide +kernel
theorem dX11_lack_142 : decode cX11_lack 142 = .ok (.iconst 0, 1) := by decide +kernel
theorem dX11_lack_143 : decode cX11_lack 143 = .ok (.ior, 1) := by decide +kernel
theorem dX11_lack_144 : decode cX11_lack 144 = .ok (.istore_n 2, 1) := by decide +kernel
theorem dX11_lack_145 : decode cX11_lack 145 = .ok (.iinc 3 1, 3) := by decide +kernel
theorem dX11_lack_148 : decode cX11_lack 148 = .ok (.goto (-34), 3) := by decide +kernel
theorem dX11_lack_151 : decode cX11_lack 151 = .ok (.iload_n 2, 1) := by decide +kernel
theorem dX11_lack_152 : decode cX11_lack 152 = .ok (.ireturn, 1) := by decide +kernel
set_option maxHeartbeats 4000000 in
set_option maxRecDepth 100000 in
/-- reference: lack -/
theorem r_lack (l : Launch) (D : va_G) (cI cJ cB cC : ClassId) (h : Nat) (th : Int32) (aw : Nat) (ai : Nat) (ab : Nat) (ac : Nat) (hi : Int32) (re : Int32) (aP : Nat) (ta : Int32) (po : Int32) (en : Int32) (be : Int32) (de : Int32) (fa : Int32) (a5 : Nat) (sp : Int32) (av : Nat) (an : Nat) (ak : Nat) (ne : Int32) (aW : Nat) (aC : Nat) (ag : Nat) (aT : Nat) (aN : Nat) (aF : Nat) (fw : Nat → Int32) (fv : Nat → Int32) (fn : Nat → Int32) (fk : Nat → Int32) (fW : Nat → Int64) (sz : Nat) (H_fw_W : wW fw) (H_fw_L : wL fw) (H_fn_N : wN fn) : Met l yX11_lack kwX11_lack ({ frames := 9, cells := 0, slots := 0, locals := 211 } : Room) (kPre D (kT cI cJ cB cC) sz [(h, oX11 th aw ai ab ac hi re aP ta po en be de fa a5 sp av an ak ne aW aC ag aT aN aF), (aw, kcI cI 2179 fw), (av, kcI cI 400 fv), (an, kcI cI 10 fn), (ak, kcI cI 10 fk), (aW, kcJ cJ 4096 fW)] [.ref h]) (va_Qi (fun (r : Int32) (uu : Int32 × (Nat → Int32) × (Nat → Int32) × (Nat → Int32) × (Nat → Int64)) => match uu with | (n0_, f1_, f2_, f3_, f4_) => Rg n0_ 0 10 ∧ wN f2_ ∧ Rg r 0 1023 ∧ F_r_lack (gT fw) (gT fv) (gT fn) (gT fk) fW = ((r : Int32).toInt, (n0_ : Int32).toInt, (gT f1_), (gT f2_), (gT f3_), f4_)) (fun (uu : Int32 × (Nat → Int32) × (Nat → Int32) × (Nat → Int32) × (Nat → Int64)) (t : State) => match uu with | (n0_, f1_, f2_, f3_, f4_) => kB D (kT cI cJ cB cC) (va_A [(h, oX11 th aw ai ab ac hi re aP ta po en be de fa a5 sp av an ak ne aW aC ag aT aN aF), (aw, kcI cI 2179 fw), (av, kcI cI 400 fv), (an, kcI cI 10 fn), (ak, kcI cI 10 fk), (aW, kcJ cJ 4096 fW)] sz) [(h, oX11 0 aw ai ab ac hi re aP ta po en be de fa a5 sp av an ak n0_ aW aC ag aT aN aF), (aw, kcI cI 2179 fw), (av, kcI cI 400 f1_), (an, kcI cI 10 f2_), (ak, kcI cI 10 f3_), (aW, kcJ cJ 4096 f4_)] t) (va_A [(h, oX11 th aw ai ab ac hi re aP ta po en be de fa a5 sp av an ak ne aW aC ag aT aN aF), (aw, kcI cI 2179 fw), (av, kcI cI 400 fv), (an, kcI cI 10 fn), (ak, kcI cI 10 fk), (aW, kcJ cJ 4096 fW)] sz)) 0 0 (va_A [(h, oX11 th aw ai ab ac hi re aP ta po en be de fa a5 sp av an ak ne aW aC ag aT aN aF), (aw, kcI cI 2179 fw), (av, kcI cI 400 fv), (an, kcI cI 10 fn), (ak, kcI cI 10 fk), (aW, kcJ cJ 4096 fW)] sz) := by
  refine Met.ofW (cc := cX11_lack) (maxL := 5) (ret := (some .int)) (by decide) rfl ?_
  intro p e s m args below meth c s₁ B hml hv
  obtain ⟨rfl, hsz, hN, hE, hP, hK, hD0⟩ := hv
  have hx := B.exec
  have hb := B.bytes
  have hr := B.returns
  have hts := fun (w : Cond) (h : w ∈ kG) => atoms_spec (ws := kwX11_lack) B.pre w (List.mem_cons_of_mem _ h)
  have hown : s.vm.findClass RX11 = some m.cls := findClass_of_methodNamed B.named
  subst hsz
  have hD := hD0.self (sz := s.heap.size)
  generalize hAe : va_A [(h, oX11 th aw ai ab ac hi re aP ta po en be de fa a5 sp av an ak ne aW aC ag aT aN aF), (aw, kcI cI 2179 fw), (av, kcI cI 400 fv), (an, kcI cI 10 fn), (ak, kcI cI 10 fk), (aW, kcJ cJ 4096 fW)] s.heap.size = A at hD hE ⊢
  have hA : ∀ q : Nat, s.heap.size ≤ q → A q := fun q h => by rw [← hAe]; exact Or.inr h
  have hl := lv_entry ([.ref h]) (n := 5) (Nat.le_of_ble_eq_true rfl)
  rw [lg_entry_eq]
  generalize (lg_sl ([.ref h]) ++ List.replicate (5 - (lg_sl ([.ref h])).length) Slot.unset).toArray = ls at hl ⊢
  have hl : lv_has ls 5 [(0, .ref h)] := hl
  obtain ⟨H, hH0⟩ : ∃ H, H = s.heap := ⟨_, rfl⟩
  have hS : va_S A s.heap H [] := by rw [hH0]; exact va_S.rf
  have hP : va_P D vwCl [(h, oX11 th aw ai ab ac hi re aP ta po en be de fa a5 sp av an ak ne aW aC ag aT aN aF), (aw, kcI cI 2179 fw), (av, kcI cI 400 fv), (an, kcI cI 10 fn), (ak, kcI cI 10 fk), (aW, kcJ cJ 4096 fW)] H := by rw [hH0]; exact hP
  refine kHeap hH0 ?_
  clear hH0
  refine lv_aload_n hx hb dX11_lack_0 rfl (lv_at hl 0 rfl) ?_
  refine lv_iconst (v := 0) hx hb dX11_lack_1 (by decide) ?_
  refine va_put (D := D) (ci := 10) (v := .int 0) (ty := .int) (C := RX11) (T := TX11) (N := 26) hx hb hts iG_X11 tyX11 tyX11_ok nmX11 hown hK hP hD hS 0 rfl rfl 0 (by decide) (hts _ w6_8) (fun _ h9 => h9) rfl (by decide +kernel) rfl rfl (Nat.le_of_ble_eq_true rfl) dX11_lack_2 (fun H locs hP hD hS => ?_)
  have hP : va_P D vwCl [(h, oX11 0 aw ai ab ac hi re aP ta po en be de fa a5 sp av an ak ne aW aC ag aT aN aF), (aw, kcI cI 2179 fw), (av, kcI cI 400 fv), (an, kcI cI 10 fn), (ak, kcI cI 10 fk), (aW, kcJ cJ 4096 fW)] H := hP
  have hD : va_D A [(h, oX11 0 aw ai ab ac hi re aP ta po en be de fa a5 sp av an ak ne aW aC ag aT aN aF), (aw, kcI cI 2179 fw), (av, kcI cI 400 fv), (an, kcI cI 10 fn), (ak, kcI cI 10 fk), (aW, kcJ cJ 4096 fW)] := hD
  refine lv_aload_n hx hb dX11_lack_5 rfl (lv_at hl 0 rfl) ?_
  refine kcalll (wc := [(h, oX11 0 aw ai ab ac hi re aP ta po en be de fa a5 sp av an ak ne aW aC ag aT aN aF), (aw, kcI cI 2179 fw), (av, kcI cI 400 fv), (an, kcI cI 10 fn), (ak, kcI cI 10 fk), (aW, kcJ cJ 4096 fW)]) (wr := []) hP hD hS hA [0, 1, 2, 3, 4, 5] [] rfl rfl (by decide) (by decide) (by decide) (fun hPc hDc hFc => va_runV (As := []) (rest := []) ⟨hx, hb, hml, hown, hts⟩ (r_allWays l D cI cJ cB cC h 0 aw ai ab ac hi re aP ta po en be de fa a5 sp av an ak ne aW aC ag aT aN aF fw fv fn fk fW H.size H_fw_W H_fw_L H_fn_N) (cwV 0 hts gX11_lack_X11_allWays rfl rfl rfl ⟨rfl, hdX11_allWays⟩ ⟨Nat.le_of_ble_eq_true rfl, Nat.le_of_ble_eq_true rfl⟩) ⟨kBlind, va_recv hK hPc (ci := 10) (q0 := 0) rfl rfl, fun U hU hW => ⟨rfl, by rw [hU], hN.warm hW, hE.pass hS hFc hW hU, by rw [hU]; exact hPc, va_K.moved hW.alike hK, hDc⟩⟩ rfl rfl hl.1 rfl (lv_room (Nat.le_of_ble_eq_true rfl)) dX11_lack_6 ⟨Nat.le_of_ble_eq_true rfl, Nat.le_of_ble_eq_true rfl⟩) (fun r1 u H locs hw hP hD hS => ?_)
  obtain ⟨x2, g3, g4, g5, g6⟩ := u
  have hP : va_P D vwCl [(h, oX11 0 aw ai ab ac hi re aP ta po en be de fa a5 sp av an ak x2 aW aC ag aT aN aF), (aw, kcI cI 2179 fw), (av, kcI cI 400 g3), (an, kcI cI 10 g4), (ak, kcI cI 10 g5), (aW, kcJ cJ 4096 g6)] H := hP
  have hD : va_D A [(h, oX11 0 aw ai ab ac hi re aP ta po en be de fa a5 sp av an ak x2 aW aC ag aT aN aF), (aw, kcI cI 2179 fw), (av, kcI cI 400 g3), (an, kcI cI 10 g4), (ak, kcI cI 10 g5), (aW, kcJ cJ 4096 g6)] := hD
  obtain ⟨k7, k8, k9⟩ := hw
  refine lv_lconst (v := 0) hx hb dX11_lack_9 (by decide) ?_
  refine W.lcmp hx hb dX11_lack_10 ?_
  refine lv_topi (fun x10 ex10 => ?_)
  have k11 : Rg x10 (-1) 1 := rg_cmp ex10
  refine lv_if_le (tgt := 16) hx hb dX11_lack_11 (by decide) (fun c12 => ?_) (fun c12 => ?_)
  · skip
    have k13 : Rg x10 (-1) 0 := rg_e1 (leI c12) k11 (rg_lit (n := 0) (by decide)) (by decide)
    refine lv_iconst (v := 0) hx hb dX11_lack_16 (by decide) ?_
    refine lv_istore_n (lv' := [(1, .int 0), (0, .ref h)]) hx hb dX11_lack_17 rfl hl (by decide) rfl (fun ls hl => ?_)
    refine lv_iconst (v := 1) hx hb dX11_lack_18 (by decide) ?_
    refine lv_istore_n (lv' := [(2, .int 1), (1, .int 0), (0, .ref h)]) hx hb dX11_lack_19 rfl hl (by decide) rfl (fun ls hl => ?_)
    refine k_loop (hd := 20) (fun (u : Int32 × Int32) => match u with | (y5039, y5040) => (1024 - (y5039).toInt).toNat) (fun (u : Int32 × Int32) (H : Heap) (locs : List Loc) (ls : Array Slot) => match u with | (y5039, y5040) => (F_r_lack (gT fw) (gT fv) (gT fn) (gT fk) fW = F_r_lack_l1 x2.toInt (gT g3) (gT g4) (gT g5) g6 (y5039.toInt, y5040.toInt)) ∧ Rg y5039 1 1024 ∧ Rg y5040 0 1023 ∧ va_P D vwCl [(h, oX11 0 aw ai ab ac hi re aP ta po en be de fa a5 sp av an ak x2 aW aC ag aT aN aF), (aw, kcI cI 2179 fw), (av, kcI cI 400 g3), (an, kcI cI 10 g4), (ak, kcI cI 10 g5), (aW, kcJ cJ 4096 g6)] H ∧ va_D A [(h, oX11 0 aw ai ab ac hi re aP ta po en be de fa a5 sp av an ak x2 aW aC ag aT aN aF), (aw, kcI cI 2179 fw), (av, kcI cI 400 g3), (an, kcI cI 10 g4), (ak, kcI cI 10 g5), (aW, kcJ cJ 4096 g6)] ∧ va_S A s.heap H locs ∧ lv_has ls 5 [(2, .int y5039), (1, .int y5040), (0, .ref h)]) ((1 : Int32), (0 : Int32)) ⟨(kC_eq k9 (kC_eq rfl (kC_eq rfl (kC_eq rfl (kC_eq rfl (kLet_eq (ke_cmp ex10) (kif_t (leI c12) rfl))))))), (rg_w (rg_lit (n := 1) (by decide)) (by decide)), (rg_w (rg_lit (n := 0) (by decide)) (by decide)), hP.sub (ws' := [(h, oX11 0 aw ai ab ac hi re aP ta po en be de fa a5 sp av an ak x2 aW aC ag aT aN aF), (aw, kcI cI 2179 fw), (av, kcI cI 400 g3), (an, kcI cI 10 g4), (ak, kcI cI 10 g5), (aW, kcJ cJ 4096 g6)]) [0, 1, 2, 3, 4, 5] rfl, hD.sub (ws' := [(h, oX11 0 aw ai ab ac hi re aP ta po en be de fa a5 sp av an ak x2 aW aC ag aT aN aF), (aw, kcI cI 2179 fw), (av, kcI cI 400 g3), (an, kcI cI 10 g4), (ak, kcI cI 10 g5), (aW, kcJ cJ 4096 g6)]) [0, 1, 2, 3, 4, 5] (by decide) rfl, hS, lv_sub (l' := [(2, .int 1), (1, .int 0), (0, .ref h)]) hl [0, 1, 2] rfl⟩ (fun u H locs ls hI ih5041 => ?_)
    clear hP hD hS hl
    obtain ⟨y5039, y5040⟩ := u
    obtain ⟨hF1, hy5039, hy5040, hP, hD, hS, hl⟩ := hI
    have hP : va_P D vwCl [(h, oX11 0 aw ai ab ac hi re aP ta po en be de fa a5 sp av an ak x2 aW aC ag aT aN aF), (aw, kcI cI 2179 fw), (av, kcI cI 400 g3), (an, kcI cI 10 g4), (ak, kcI cI 10 g5), (aW, kcJ cJ 4096 g6)] H := hP
    have hD : va_D A [(h, oX11 0 aw ai ab ac hi re aP ta po en be de fa a5 sp av an ak x2 aW aC ag aT aN aF), (aw, kcI cI 2179 fw), (av, kcI cI 400 g3), (an, kcI cI 10 g4), (ak, kcI cI 10 g5), (aW, kcJ cJ 4096 g6)] := hD
    have hl : lv_has ls 5 [(2, .int y5039), (1, .int y5040), (0, .ref h)] := hl
    refine lv_iload_n hx hb dX11_lack_20 rfl (lv_at hl 0 rfl) ?_
    refine lv_iconst (v := 1) hx hb dX11_lack_21 (by decide) ?_
    refine lv_aload_n hx hb dX11_lack_22 rfl (lv_at hl 2 rfl) ?_
    refine va_get (D := D) (ci := 10) (v := .int x2) (C := RX11) (T := TX11) (N := 26) hx hb hts iG_X11 hown hK hP 0 rfl rfl 19 (by decide) (hts _ w40_11) (fun _ h9 => h9) rfl dX11_lack_23 ?_
    refine lv_ishl hx hb dX11_lack_26 ?_
    refine lv_topi (fun x5042 ex5042 => ?_)
    have k5043 : Rg x5042 1 1024 := rg_shl1 10 ex5042 k7 (by decide)
    refine lv_icmp_ge (tgt := 110) hx hb dX11_lack_27 (by decide) (fun c5044 => ?_) (fun c5044 => ?_)
    · skip
      refine lv_iconst (v := 0) hx hb dX11_lack_110 (by decide) ?_
      refine lv_istore_n (lv' := [(2, .int 0), (1, .int y5040), (0, .ref h)]) hx hb dX11_lack_111 rfl hl (by decide) rfl (fun ls hl => ?_)
      refine lv_iconst (v := 0) hx hb dX11_lack_112 (by decide) ?_
      refine lv_istore_n (lv' := [(3, .int 0), (2, .int 0), (1, .int y5040), (0, .ref h)]) hx hb dX11_lack_113 rfl hl (by decide) rfl (fun ls hl => ?_)
      refine k_loop (hd := 114) (fun (u : Int32 × Int32) => match u with | (y5376, y5377) => (10 - (y5376).toInt).toNat) (fun (u : Int32 × Int32) (H : Heap) (locs : List Loc) (ls : Array Slot) => match u with | (y5376, y5377) => (F_r_lack_l1_s x2.toInt (gT g3) (gT g4) (gT g5) g6 (y5039.toInt, y5040.toInt) = F_r_lack_l2 x2.toInt (gT g3) (gT g4) (gT g5) g6 y5040.toInt (y5376.toInt, y5377.toInt)) ∧ Rg y5376 0 10 ∧ Rg y5377 0 1023 ∧ va_P D vwCl [(h, oX11 0 aw ai ab ac hi re aP ta po en be de fa a5 sp av an ak x2 aW aC ag aT aN aF), (aw, kcI cI 2179 fw), (av, kcI cI 400 g3), (an, kcI cI 10 g4), (ak, kcI cI 10 g5), (aW, kcJ cJ 4096 g6)] H ∧ va_D A [(h, oX11 0 aw ai ab ac hi re aP ta po en be de fa a5 sp av an ak x2 aW aC ag aT aN aF), (aw, kcI cI 2179 fw), (av, kcI cI 400 g3), (an, kcI cI 10 g4), (ak, kcI cI 10 g5), (aW, kcJ cJ 4096 g6)] ∧ va_S A s.heap H locs ∧ lv_has ls 5 [(3, .int y5376), (2, .int y5377), (1, .int y5040), (0, .ref h)]) ((0 : Int32), (0 : Int32)) ⟨(kC_eq rfl (kLet_eq (ke_shl ex5042) (kif_t (leI c5044) rfl))), (rg_w (rg_lit (n := 0) (by decide)) (by decide)), (rg_w (rg_lit (n := 0) (by decide)) (by decide)), hP.sub (ws' := [(h, oX11 0 aw ai ab ac hi re aP ta po en be de fa a5 sp av an ak x2 aW aC ag aT aN aF), (aw, kcI cI 2179 fw), (av, kcI cI 400 g3), (an, kcI cI 10 g4), (ak, kcI cI 10 g5), (aW, kcJ cJ 4096 g6)]) [0, 1, 2, 3, 4, 5] rfl, hD.sub (ws' := [(h, oX11 0 aw ai ab ac hi re aP ta po en be de fa a5 sp av an ak x2 aW aC ag aT aN aF), (aw, kcI cI 2179 fw), (av, kcI cI 400 g3), (an, kcI cI 10 g4), (ak, kcI cI 10 g5), (aW, kcJ cJ 4096 g6)]) [0, 1, 2, 3, 4, 5] (by decide) rfl, hS, lv_sub (l' := [(3, .int 0), (2, .int 0), (1, .int y5040), (0, .ref h)]) hl [0, 1, 2, 3] rfl⟩ (fun u H locs ls hI ih5378 => ?_)
      clear hP hD hS hl
      obtain ⟨y5376, y5377⟩ := u
      obtain ⟨hF2, hy5376, hy5377, hP, hD, hS, hl⟩ := hI
      have hP : va_P D vwCl [(h, oX11 0 aw ai ab ac hi re aP ta po en be de fa a5 sp av an ak x2 aW aC ag aT aN aF), (aw, kcI cI 2179 fw), (av, kcI cI 400 g3), (an, kcI cI 10 g4), (ak, kcI cI 10 g5), (aW, kcJ cJ 4096 g6)] H := hP
      have hD : va_D A [(h, oX11 0 aw ai ab ac hi re aP ta po en be de fa a5 sp av an ak x2 aW aC ag aT aN aF), (aw, kcI cI 2179 fw), (av, kcI cI 400 g3), (an, kcI cI 10 g4), (ak, kcI cI 10 g5), (aW, kcJ cJ 4096 g6)] := hD
      have hl : lv_has ls 5 [(3, .int y5376), (2, .int y5377), (1, .int y5040), (0, .ref h)] := hl
      refine lv_iload_n hx hb dX11_lack_114 rfl (lv_at hl 0 rfl) ?_
      refine lv_aload_n hx hb dX11_lack_115 rfl (lv_at hl 3 rfl) ?_
      refine va_get (D := D) (ci := 10) (v := .int x2) (C := RX11) (T := TX11) (N := 26) hx hb hts iG_X11 hown hK hP 0 rfl rfl 19 (by decide) (hts _ w40_11) (fun _ h9 => h9) rfl dX11_lack_116 ?_
      refine lv_icmp_ge (tgt := 151) hx hb dX11_lack_119 (by decide) (fun c5379 => ?_) (fun c5379 => ?_)
      · skip
        refine lv_iload_n hx hb dX11_lack_151 rfl (lv_at hl 1 rfl) ?_
        have hP9 := hP.sub (ws' := [(h, oX11 0 aw ai ab ac hi re aP ta po en be de fa a5 sp av an ak x2 aW aC ag aT aN aF), (aw, kcI cI 2179 fw), (av, kcI cI 400 g3), (an, kcI cI 10 g4), (ak, kcI cI 10 g5), (aW, kcJ cJ 4096 g6)]) [0, 1, 2, 3, 4, 5] rfl
        have hD9 := hD.sub (ws' := [(h, oX11 0 aw ai ab ac hi re aP ta po en be de fa a5 sp av an ak x2 aW aC ag aT aN aF), (aw, kcI cI 2179 fw), (av, kcI cI 400 g3), (an, kcI cI 10 g4), (ak, kcI cI 10 g5), (aW, kcJ cJ 4096 g6)]) [0, 1, 2, 3, 4, 5] (by decide) rfl
        exact W.iret (v := y5377) hx hb hr (fun t ht hW => ⟨⟨y5377, (x2, g3, g4, g5, g6), rfl, ⟨k7, k8, hy5377, (hF1.trans (kIter_out (hF2.trans (kIter_out (kC_eq rfl (kif_t (leI c5379) rfl))))))⟩, by rw [ht]; exact hP9, va_K.moved hW.alike hK, hD9⟩, hS.F ht⟩) hS.2.2 dX11_lack_152
      · skip
        have k5380 : Rg y5376 0 9 := rg_l1 (nleI c5379) hy5376 k7 (by decide)
        have k5381 : Rg x2 1 10 := rg_l2 (nleI c5379) hy5376 k7 (by decide)
        refine lv_iload_n hx hb dX11_lack_122 rfl (lv_at hl 1 rfl) ?_
        refine lv_iload_n hx hb dX11_lack_123 rfl (lv_at hl 2 rfl) ?_
        refine lv_iload_n hx hb dX11_lack_124 rfl (lv_at hl 0 rfl) ?_
        refine kpurei (wc := []) hP hD hS hA [] rfl (by decide) (fun hPc hDc hFc => va_runS (As := [.int y5040, .int y5376]) (rest := [.int y5377]) ⟨hx, hb, hml, hown, hts⟩ (r_has l D cI cJ cB cC y5040 y5376 H.size) (va_cwS 2 hts gX11_lack_X11_has rfl rfl rfl hdX11_has ⟨Nat.le_of_ble_eq_true rfl, Nat.le_of_ble_eq_true rfl⟩) ⟨kBlind, fun U hU hW => ⟨rfl, by rw [hU], hN.warm hW, hE.pass hS hFc hW hU, by rw [hU]; exact hPc, va_K.moved hW.alike hK, hDc⟩⟩ rfl rfl hl.1 rfl (lv_room (Nat.le_of_ble_eq_true rfl)) dX11_lack_125 ⟨Nat.le_of_ble_eq_true rfl, Nat.le_of_ble_eq_true rfl⟩) (fun r5382 u H locs hw hP hS => ?_)
        obtain ⟨k5383, k5384⟩ := hw
        refine k_join (hd := 143) (cells2 := 0) (slots2 := 0) (fun (u : Int32 × Int32) => match u with | (z5394, z5395) => [.int z5394, .int z5395]) (fun (u : Int32 × Int32) (H : Heap) (locs : List Loc) (ls : Array Slot) => match u with | (z5394, z5395) => (F_r_lack_l2_s x2.toInt (gT g3) (gT g4) (gT g5) g6 y5040.toInt (y5376.toInt, y5377.toInt) = F_r_lack_j3 y5376.toInt z5394.toInt z5395.toInt) ∧ Rg z5394 0 512 ∧ Rg z5395 0 1023 ∧ va_P D vwCl [(h, oX11 0 aw ai ab ac hi re aP ta po en be de fa a5 sp av an ak x2 aW aC ag aT aN aF), (aw, kcI cI 2179 fw), (av, kcI cI 400 g3), (an, kcI cI 10 g4), (ak, kcI cI 10 g5), (aW, kcJ cJ 4096 g6)] H ∧ va_D A [(h, oX11 0 aw ai ab ac hi re aP ta po en be de fa a5 sp av an ak x2 aW aC ag aT aN aF), (aw, kcI cI 2179 fw), (av, kcI cI 400 g3), (an, kcI cI 10 g4), (ak, kcI cI 10 g5), (aW, kcJ cJ 4096 g6)] ∧ va_S A s.heap H locs ∧ lv_has ls 5 [(3, .int y5376), (2, .int y5377), (1, .int y5040), (0, .ref h)]) (fun u H locs ls hI => ?_) (fun hJ143 => ?_)
        · skip
          clear hP hD hS hl
          obtain ⟨z5394, z5395⟩ := u
          obtain ⟨hF3, hz5394, hz5395, hP, hD, hS, hl⟩ := hI
          have hP : va_P D vwCl [(h, oX11 0 aw ai ab ac hi re aP ta po en be de fa a5 sp av an ak x2 aW aC ag aT aN aF), (aw, kcI cI 2179 fw), (av, kcI cI 400 g3), (an, kcI cI 10 g4), (ak, kcI cI 10 g5), (aW, kcJ cJ 4096 g6)] H := hP
          have hD : va_D A [(h, oX11 0 aw ai ab ac hi re aP ta po en be de fa a5 sp av an ak x2 aW aC ag aT aN aF), (aw, kcI cI 2179 fw), (av, kcI cI 400 g3), (an, kcI cI 10 g4), (ak, kcI cI 10 g5), (aW, kcJ cJ 4096 g6)] := hD
          have hl : lv_has ls 5 [(3, .int y5376), (2, .int y5377), (1, .int y5040), (0, .ref h)] := hl
          show W _ _ _ _ _ _ _ _ _ _ _ _ _ _ _ (F0 m 143 ls [.int z5394, .int z5395])
          refine lv_ior hx hb dX11_lack_143 ?_
          refine lv_topi (fun x5396 ex5396 => ?_)
          have k5397 : Rg x5396 0 1023 := rg_or 10 ex5396 hz5395 hz5394 (by decide)
          refine lv_istore_n (lv' := [(2, .int x5396), (3, .int y5376), (1, .int y5040), (0, .ref h)]) hx hb dX11_lack_144 rfl hl (by decide) rfl (fun ls hl => ?_)
          obtain ⟨x5398, ex5398⟩ : ∃ y : Int32, y = y5376 + 1 := ⟨_, rfl⟩
          refine lv_iinc (v := x5398) (lv' := [(3, .int x5398), (2, .int x5396), (1, .int y5040), (0, .ref h)]) hx hb dX11_lack_145 hl (k := 1) rfl (by rw [ex5398]; rfl) (by decide) rfl (fun ls hl => ?_)
          have k5399 : Rg x5398 1 10 := rg_add ex5398 k5380 (rg_lit (n := 1) (by decide)) (by decide)
          refine lv_goto (tgt := 114) hx hb dX11_lack_148 (by decide) ?_
          exact ih5378 (x5398, x5396) _ _ _ (by show (10 - (x5398).toInt).toNat < (10 - (y5376).toInt).toNat; exact mu_up ex5398 k5380 k5399 (by decide)) ⟨(hF2.trans (kIter_go (hF3.trans (kLet_eq (ke_or ex5396) (kLet_eq (ti_add ex5398 k5380 (rg_lit (n := 1) (by decide)) (by decide) rfl rfl) rfl))))), (rg_w k5399 (by decide)), k5397, hP.sub (ws' := [(h, oX11 0 aw ai ab ac hi re aP ta po en be de fa a5 sp av an ak x2 aW aC ag aT aN aF), (aw, kcI cI 2179 fw), (av, kcI cI 400 g3), (an, kcI cI 10 g4), (ak, kcI cI 10 g5), (aW, kcJ cJ 4096 g6)]) [0, 1, 2, 3, 4, 5] rfl, hD.sub (ws' := [(h, oX11 0 aw ai ab ac hi re aP ta po en be de fa a5 sp av an ak x2 aW aC ag aT aN aF), (aw, kcI cI 2179 fw), (av, kcI cI 400 g3), (an, kcI cI 10 g4), (ak, kcI cI 10 g5), (aW, kcJ cJ 4096 g6)]) [0, 1, 2, 3, 4, 5] (by decide) rfl, hS, lv_sub (l' := [(3, .int x5398), (2, .int x5396), (1, .int y5040), (0, .ref h)]) hl [0, 1, 2, 3] rfl⟩
        refine lv_if_eq (tgt := 142) hx hb dX11_lack_128 (by decide) (fun c5400 => ?_) (fun c5400 => ?_)
        · skip
          have k5401 : Rg r5382 0 0 := rg_q1 (eqI c5400) k5383 (rg_lit (n := 0) (by decide)) (by decide)
          refine lv_iconst (v := 0) hx hb dX11_lack_142 (by decide) ?_
          exact hJ143 ((0 : Int32), y5377) _ _ _ ⟨(kC_eq rfl (kif_f (xF_le c5379) (kLet_eq (k5384).symm (kif_t (eqI c5400) rfl)))), (rg_w (rg_lit (n := 0) (by decide)) (by decide)), hy5377, hP.sub (ws' := [(h, oX11 0 aw ai ab ac hi re aP ta po en be de fa a5 sp av an ak x2 aW aC ag aT aN aF), (aw, kcI cI 2179 fw), (av, kcI cI 400 g3), (an, kcI cI 10 g4), (ak, kcI cI 10 g5), (aW, kcJ cJ 4096 g6)]) [0, 1, 2, 3, 4, 5] rfl, hD.sub (ws' := [(h, oX11 0 aw ai ab ac hi re aP ta po en be de fa a5 sp av an ak x2 aW aC ag aT aN aF), (aw, kcI cI 2179 fw), (av, kcI cI 400 g3), (an, kcI cI 10 g4), (ak, kcI cI 10 g5), (aW, kcJ cJ 4096 g6)]) [0, 1, 2, 3, 4, 5] (by decide) rfl, hS, lv_sub (l' := [(3, .int y5376), (2, .int y5377), (1, .int y5040), (0, .ref h)]) hl [0, 1, 2, 3] rfl⟩
        · skip
          have k5402 : Rg r5382 1 1 := rg_n1 (neI c5400) k5383 (rg_lit (n := 0) (by decide)) (by decide)
          refine lv_iconst (v := 1) hx hb dX11_lack_131 (by decide) ?_
          refine lv_aload_n hx hb dX11_lack_132 rfl (lv_at hl 3 rfl) ?_
          refine va_get (D := D) (ci := 10) (v := .ref an) (C := RX11) (T := TX11) (N := 26) hx hb hts iG_X11 hown hK hP 0 rfl rfl 17 (by decide) (hts _ w5_12) (fun _ h9 => h9) rfl dX11_lack_133 ?_
          refine lv_iload_n hx hb dX11_lack_136 rfl (lv_at hl 0 rfl) ?_
          refine va_iald hx hb hK hP 3 0 rfl rfl (rg_in k5380 (by decide)) dX11_lack_137 ?_
          refine lv_topi (fun x5403 ex5403 => ?_)
          have k5404 : Rg x5403 0 9 := wN_rd k8 ex5403
          refine lv_ishl hx hb dX11_lack_138 ?_
          refine lv_topi (fun x5405 ex5405 => ?_)
          have k5406 : Rg x5405 1 512 := rg_shl1 9 ex5405 k5404 (by decide)
          refine lv_goto (tgt := 143) hx hb dX11_lack_139 (by decide) ?_
          exact hJ143 (x5405, y5377) _ _ _ ⟨(kC_eq rfl (kif_f (xF_le c5379) (kLet_eq (k5384).symm (kif_f (neI c5400) (kLet_eq (ke_ld ex5403) (kLet_eq (ke_shl ex5405) rfl)))))), (rg_w k5406 (by decide)), hy5377, hP.sub (ws' := [(h, oX11 0 aw ai ab ac hi re aP ta po en be de fa a5 sp av an ak x2 aW aC ag aT aN aF), (aw, kcI cI 2179 fw), (av, kcI cI 400 g3), (an, kcI cI 10 g4), (ak, kcI cI 10 g5), (aW, kcJ cJ 4096 g6)]) [0, 1, 2, 3, 4, 5] rfl, hD.sub (ws' := [(h, oX11 0 aw ai ab ac hi re aP ta po en be de fa a5 sp av an ak x2 aW aC ag aT aN aF), (aw, kcI cI 2179 fw), (av, kcI cI 400 g3), (an, kcI cI 10 g4), (ak, kcI cI 10 g5), (aW, kcJ cJ 4096 g6)]) [0, 1, 2, 3, 4, 5] (by decide) rfl, hS, lv_sub (l' := [(3, .int y5376), (2, .int y5377), (1, .int y5040), (0, .ref h)]) hl [0, 1, 2, 3] rfl⟩
    · skip
      have k5407 : Rg y5039 1 1023 := rg_l1 (nleI c5044) hy5039 k5043 (by decide)
      have k5408 : Rg x5042 2 1024 := rg_l2 (nleI c5044) hy5039 k5043 (by decide)
      refine lv_iconst (v := 0) hx hb dX11_lack_30 (by decide) ?_
      refine lv_istore_n (lv' := [(3, .int 0), (2, .int y5039), (1, .int y5040), (0, .ref h)]) hx hb dX11_lack_31 rfl hl (by decide) rfl (fun ls hl => ?_)
      refine lv_iconst (v := 0) hx hb dX11_lack_32 (by decide) ?_
      refine lv_istore (lv' := [(4, .int 0), (3, .int 0), (2, .int y5039), (1, .int y5040), (0, .ref h)]) hx hb dX11_lack_33 hl (by decide) rfl (fun ls hl => ?_)
      refine k_loop (hd := 35) (fun (u : Int32 × Int32) => match u with | (y5676, y5677) => (10 - (y5676).toInt).toNat) (fun (u : Int32 × Int32) (H : Heap) (locs : List Loc) (ls : Array Slot) => match u with | (y5676, y5677) => (F_r_lack_l1_s x2.toInt (gT g3) (gT g4) (gT g5) g6 (y5039.toInt, y5040.toInt) = F_r_lack_l4 x2.toInt (gT g5) y5039.toInt y5040.toInt (y5676.toInt, y5677.toInt)) ∧ Rg y5676 0 10 ∧ va_P D vwCl [(h, oX11 0 aw ai ab ac hi re aP ta po en be de fa a5 sp av an ak x2 aW aC ag aT aN aF), (aw, kcI cI 2179 fw), (av, kcI cI 400 g3), (an, kcI cI 10 g4), (ak, kcI cI 10 g5), (aW, kcJ cJ 4096 g6)] H ∧ va_D A [(h, oX11 0 aw ai ab ac hi re aP ta po en be de fa a5 sp av an ak x2 aW aC ag aT aN aF), (aw, kcI cI 2179 fw), (av, kcI cI 400 g3), (an, kcI cI 10 g4), (ak, kcI cI 10 g5), (aW, kcJ cJ 4096 g6)] ∧ va_S A s.heap H locs ∧ lv_has ls 5 [(4, .int y5676), (3, .int y5677), (2, .int y5039), (1, .int y5040), (0, .ref h)]) ((0 : Int32), (0 : Int32)) ⟨(kC_eq rfl (kLet_eq (ke_shl ex5042) (kif_f (xF_le c5044) rfl))), (rg_w (rg_lit (n := 0) (by decide)) (by decide)), hP.sub (ws' := [(h, oX11 0 aw ai ab ac hi re aP ta po en be de fa a5 sp av an ak x2 aW aC ag aT aN aF), (aw, kcI cI 2179 fw), (av, kcI cI 400 g3), (an, kcI cI 10 g4), (ak, kcI cI 10 g5), (aW, kcJ cJ 4096 g6)]) [0, 1, 2, 3, 4, 5] rfl, hD.sub (ws' := [(h, oX11 0 aw ai ab ac hi re aP ta po en be de fa a5 sp av an ak x2 aW aC ag aT aN aF), (aw, kcI cI 2179 fw), (av, kcI cI 400 g3), (an, kcI cI 10 g4), (ak, kcI cI 10 g5), (aW, kcJ cJ 4096 g6)]) [0, 1, 2, 3, 4, 5] (by decide) rfl, hS, lv_sub (l' := [(4, .int 0), (3, .int 0), (2, .int y5039), (1, .int y5040), (0, .ref h)]) hl [0, 1, 2, 3, 4] rfl⟩ (fun u H locs ls hI ih5678 => ?_)
      clear hP hD hS hl
      obtain ⟨y5676, y5677⟩ := u
      obtain ⟨hF4, hy5676, hP, hD, hS, hl⟩ := hI
      have hP : va_P D vwCl [(h, oX11 0 aw ai ab ac hi re aP ta po en be de fa a5 sp av an ak x2 aW aC ag aT aN aF), (aw, kcI cI 2179 fw), (av, kcI cI 400 g3), (an, kcI cI 10 g4), (ak, kcI cI 10 g5), (aW, kcJ cJ 4096 g6)] H := hP
      have hD : va_D A [(h, oX11 0 aw ai ab ac hi re aP ta po en be de fa a5 sp av an ak x2 aW aC ag aT aN aF), (aw, kcI cI 2179 fw), (av, kcI cI 400 g3), (an, kcI cI 10 g4), (ak, kcI cI 10 g5), (aW, kcJ cJ 4096 g6)] := hD
      have hl : lv_has ls 5 [(4, .int y5676), (3, .int y5677), (2, .int y5039), (1, .int y5040), (0, .ref h)] := hl
      refine lv_iload hx hb dX11_lack_35 (lv_at hl 0 rfl) ?_
      refine lv_aload_n hx hb dX11_lack_37 rfl (lv_at hl 4 rfl) ?_
      refine va_get (D := D) (ci := 10) (v := .int x2) (C := RX11) (T := TX11) (N := 26) hx hb hts iG_X11 hown hK hP 0 rfl rfl 19 (by decide) (hts _ w40_11) (fun _ h9 => h9) rfl dX11_lack_38 ?_
      refine lv_icmp_ge (tgt := 73) hx hb dX11_lack_41 (by decide) (fun c5679 => ?_) (fun c5679 => ?_)
      · skip
        refine lv_iload_n hx hb dX11_lack_73 rfl (lv_at hl 1 rfl) ?_
        refine kpurei (wc := []) hP hD hS hA [] rfl (by decide) (fun hPc hDc hFc => va_runS (As := [.int y5677]) (rest := []) ⟨hx, hb, hml, hown, hts⟩ (z_bitCount l D cI cJ cB cC y5677 H.size) (va_cwS 1 hts gX11_lack_J6_bitCount_0f7a4 rfl rfl rfl hdJ6_bitCount_0f7a4 ⟨Nat.le_of_ble_eq_true rfl, Nat.le_of_ble_eq_true rfl⟩) ⟨kBlind, fun U hU hW => ⟨rfl, by rw [hU], hN.warm hW, hE.pass hS hFc hW hU, by rw [hU]; exact hPc, va_K.moved hW.alike hK, hDc⟩⟩ rfl rfl hl.1 rfl (lv_room (Nat.le_of_ble_eq_true rfl)) dX11_lack_74 ⟨Nat.le_of_ble_eq_true rfl, Nat.le_of_ble_eq_true rfl⟩) (fun r5680 u H locs hw hP hS => ?_)
        obtain ⟨k5681, k5682⟩ := hw
        refine lv_iload_n hx hb dX11_lack_77 rfl (lv_at hl 2 rfl) ?_
        refine kpurei (wc := []) hP hD hS hA [] rfl (by decide) (fun hPc hDc hFc => va_runS (As := [.int y5039]) (rest := [.int r5680]) ⟨hx, hb, hml, hown, hts⟩ (z_bitCount l D cI cJ cB cC y5039 H.size) (va_cwS 1 hts gX11_lack_J6_bitCount_0f7a4 rfl rfl rfl hdJ6_bitCount_0f7a4 ⟨Nat.le_of_ble_eq_true rfl, Nat.le_of_ble_eq_true rfl⟩) ⟨kBlind, fun U hU hW => ⟨rfl, by rw [hU], hN.warm hW, hE.pass hS hFc hW hU, by rw [hU]; exact hPc, va_K.moved hW.alike hK, hDc⟩⟩ rfl rfl hl.1 rfl (lv_room (Nat.le_of_ble_eq_true rfl)) dX11_lack_78 ⟨Nat.le_of_ble_eq_true rfl, Nat.le_of_ble_eq_true rfl⟩) (fun r5683 u H locs hw hP hS => ?_)
        obtain ⟨k5684, k5685⟩ := hw
        refine k_join (hd := 104) (cells2 := 0) (slots2 := 0) (fun (y5702 : Int32) => []) (fun (y5702 : Int32) (H : Heap) (locs : List Loc) (ls : Array Slot) => (F_r_lack_l4_s x2.toInt (gT g5) y5039.toInt y5040.toInt (y5676.toInt, y5677.toInt) = F_r_lack_j5 y5039.toInt y5702.toInt) ∧ Rg y5702 0 1023 ∧ va_P D vwCl [(h, oX11 0 aw ai ab ac hi re aP ta po en be de fa a5 sp av an ak x2 aW aC ag aT aN aF), (aw, kcI cI 2179 fw), (av, kcI cI 400 g3), (an, kcI cI 10 g4), (ak, kcI cI 10 g5), (aW, kcJ cJ 4096 g6)] H ∧ va_D A [(h, oX11 0 aw ai ab ac hi re aP ta po en be de fa a5 sp av an ak x2 aW aC ag aT aN aF), (aw, kcI cI 2179 fw), (av, kcI cI 400 g3), (an, kcI cI 10 g4), (ak, kcI cI 10 g5), (aW, kcJ cJ 4096 g6)] ∧ va_S A s.heap H locs ∧ lv_has ls 5 [(4, .int y5676), (3, .int y5677), (2, .int y5039), (1, .int y5702), (0, .ref h)]) (fun u H locs ls hI => ?_) (fun hJ104 => ?_)
        · skip
          clear hP hD hS hl
          obtain ⟨y5702, rfl⟩ : ∃ z, z = u := ⟨_, rfl⟩
          obtain ⟨hF5, hy5702, hP, hD, hS, hl⟩ := hI
          have hP : va_P D vwCl [(h, oX11 0 aw ai ab ac hi re aP ta po en be de fa a5 sp av an ak x2 aW aC ag aT aN aF), (aw, kcI cI 2179 fw), (av, kcI cI 400 g3), (an, kcI cI 10 g4), (ak, kcI cI 10 g5), (aW, kcJ cJ 4096 g6)] H := hP
          have hD : va_D A [(h, oX11 0 aw ai ab ac hi re aP ta po en be de fa a5 sp av an ak x2 aW aC ag aT aN aF), (aw, kcI cI 2179 fw), (av, kcI cI 400 g3), (an, kcI cI 10 g4), (ak, kcI cI 10 g5), (aW, kcJ cJ 4096 g6)] := hD
          have hl : lv_has ls 5 [(4, .int y5676), (3, .int y5677), (2, .int y5039), (1, .int y5702), (0, .ref h)] := hl
          obtain ⟨x5703, ex5703⟩ : ∃ y : Int32, y = y5039 + 1 := ⟨_, rfl⟩
          refine lv_iinc (v := x5703) (lv' := [(2, .int x5703), (4, .int y5676), (3, .int y5677), (1, .int y5702), (0, .ref h)]) hx hb dX11_lack_104 hl (k := 2) rfl (by rw [ex5703]; rfl) (by decide) rfl (fun ls hl => ?_)
          have k5704 : Rg x5703 2 1024 := rg_add ex5703 k5407 (rg_lit (n := 1) (by decide)) (by decide)
          refine lv_goto (tgt := 20) hx hb dX11_lack_107 (by decide) ?_
          exact ih5041 (x5703, y5702) _ _ _ (by show (1024 - (x5703).toInt).toNat < (1024 - (y5039).toInt).toNat; exact mu_up ex5703 k5407 k5704 (by decide)) ⟨(hF1.trans (kIter_go (hF4.trans (kIter_out (hF5.trans (kLet_eq (ti_add ex5703 k5407 (rg_lit (n := 1) (by decide)) (by decide) rfl rfl) rfl)))))), (rg_w k5704 (by decide)), hy5702, hP.sub (ws' := [(h, oX11 0 aw ai ab ac hi re aP ta po en be de fa a5 sp av an ak x2 aW aC ag aT aN aF), (aw, kcI cI 2179 fw), (av, kcI cI 400 g3), (an, kcI cI 10 g4), (ak, kcI cI 10 g5), (aW, kcJ cJ 4096 g6)]) [0, 1, 2, 3, 4, 5] rfl, hD.sub (ws' := [(h, oX11 0 aw ai ab ac hi re aP ta po en be de fa a5 sp av an ak x2 aW aC ag aT aN aF), (aw, kcI cI 2179 fw), (av, kcI cI 400 g3), (an, kcI cI 10 g4), (ak, kcI cI 10 g5), (aW, kcJ cJ 4096 g6)]) [0, 1, 2, 3, 4, 5] (by decide) rfl, hS, lv_sub (l' := [(2, .int x5703), (1, .int y5702), (0, .ref h)]) hl [0, 3, 4] rfl⟩
        refine lv_icmp_ge (tgt := 104) hx hb dX11_lack_81 (by decide) (fun c5705 => ?_) (fun c5705 => ?_)
        · skip
          exact hJ104 (y5040) _ _ _ ⟨(kC_eq rfl (kif_t (leI c5679) (kLet_eq (k5682).symm (kLet_eq (k5685).symm (kif_t (leI c5705) rfl))))), hy5040, hP.sub (ws' := [(h, oX11 0 aw ai ab ac hi re aP ta po en be de fa a5 sp av an ak x2 aW aC ag aT aN aF), (aw, kcI cI 2179 fw), (av, kcI cI 400 g3), (an, kcI cI 10 g4), (ak, kcI cI 10 g5), (aW, kcJ cJ 4096 g6)]) [0, 1, 2, 3, 4, 5] rfl, hD.sub (ws' := [(h, oX11 0 aw ai ab ac hi re aP ta po en be de fa a5 sp av an ak x2 aW aC ag aT aN aF), (aw, kcI cI 2179 fw), (av, kcI cI 400 g3), (an, kcI cI 10 g4), (ak, kcI cI 10 g5), (aW, kcJ cJ 4096 g6)]) [0, 1, 2, 3, 4, 5] (by decide) rfl, hS, lv_sub (l' := [(4, .int y5676), (3, .int y5677), (2, .int y5039), (1, .int y5040), (0, .ref h)]) hl [0, 1, 2, 3, 4] rfl⟩
        · skip
          have k5706 : Rg r5680 0 62 := rg_l1 (nleI c5705) k5681 k5684 (by decide)
          have k5707 : Rg r5683 1 63 := rg_l2 (nleI c5705) k5681 k5684 (by decide)
          refine lv_iload_n hx hb dX11_lack_84 rfl (lv_at hl 3 rfl) ?_
          refine k_join (hd := 102) (cells2 := 0) (slots2 := 0) (fun (_ : Unit) => []) (fun (_ : Unit) (H : Heap) (locs : List Loc) (ls : Array Slot) => (F_r_lack_l4_s x2.toInt (gT g5) y5039.toInt y5040.toInt (y5676.toInt, y5677.toInt) = F_r_lack_j6 y5039.toInt) ∧ va_P D vwCl [(h, oX11 0 aw ai ab ac hi re aP ta po en be de fa a5 sp av an ak x2 aW aC ag aT aN aF), (aw, kcI cI 2179 fw), (av, kcI cI 400 g3), (an, kcI cI 10 g4), (ak, kcI cI 10 g5), (aW, kcJ cJ 4096 g6)] H ∧ va_D A [(h, oX11 0 aw ai ab ac hi re aP ta po en be de fa a5 sp av an ak x2 aW aC ag aT aN aF), (aw, kcI cI 2179 fw), (av, kcI cI 400 g3), (an, kcI cI 10 g4), (ak, kcI cI 10 g5), (aW, kcJ cJ 4096 g6)] ∧ va_S A s.heap H locs ∧ lv_has ls 5 [(4, .int y5676), (3, .int y5677), (2, .int y5039), (1, .int y5040), (0, .ref h)]) (fun u H locs ls hI => ?_) (fun hJ102 => ?_)
          · skip
            clear hP hD hS hl
            obtain ⟨hF6, hP, hD, hS, hl⟩ := hI
            have hP : va_P D vwCl [(h, oX11 0 aw ai ab ac hi re aP ta po en be de fa a5 sp av an ak x2 aW aC ag aT aN aF), (aw, kcI cI 2179 fw), (av, kcI cI 400 g3), (an, kcI cI 10 g4), (ak, kcI cI 10 g5), (aW, kcJ cJ 4096 g6)] H := hP
            have hD : va_D A [(h, oX11 0 aw ai ab ac hi re aP ta po en be de fa a5 sp av an ak x2 aW aC ag aT aN aF), (aw, kcI cI 2179 fw), (av, kcI cI 400 g3), (an, kcI cI 10 g4), (ak, kcI cI 10 g5), (aW, kcJ cJ 4096 g6)] := hD
            have hl : lv_has ls 5 [(4, .int y5676), (3, .int y5677), (2, .int y5039), (1, .int y5040), (0, .ref h)] := hl
            refine lv_iload_n hx hb dX11_lack_102 rfl (lv_at hl 2 rfl) ?_
            refine lv_istore_n (lv' := [(1, .int y5039), (4, .int y5676), (3, .int y5677), (2, .int y5039), (0, .ref h)]) hx hb dX11_lack_103 rfl hl (by decide) rfl (fun ls hl => ?_)
            exact hJ104 (y5039) _ _ _ ⟨(hF6.trans rfl), (rg_w k5407 (by decide)), hP.sub (ws' := [(h, oX11 0 aw ai ab ac hi re aP ta po en be de fa a5 sp av an ak x2 aW aC ag aT aN aF), (aw, kcI cI 2179 fw), (av, kcI cI 400 g3), (an, kcI cI 10 g4), (ak, kcI cI 10 g5), (aW, kcJ cJ 4096 g6)]) [0, 1, 2, 3, 4, 5] rfl, hD.sub (ws' := [(h, oX11 0 aw ai ab ac hi re aP ta po en be de fa a5 sp av an ak x2 aW aC ag aT aN aF), (aw, kcI cI 2179 fw), (av, kcI cI 400 g3), (an, kcI cI 10 g4), (ak, kcI cI 10 g5), (aW, kcJ cJ 4096 g6)]) [0, 1, 2, 3, 4, 5] (by decide) rfl, hS, lv_sub (l' := [(4, .int y5676), (3, .int y5677), (2, .int y5039), (1, .int y5039), (0, .ref h)]) hl [1, 2, 3, 0, 4] rfl⟩
          refine lv_if_le (tgt := 102) hx hb dX11_lack_85 (by decide) (fun c5720 => ?_) (fun c5720 => ?_)
          · skip
            have k5721 : Rg y5040 0 0 := rg_e1 (leI c5720) hy5040 (rg_lit (n := 0) (by decide)) (by decide)
            exact hJ102 () _ _ _ ⟨(kC_eq rfl (kif_t (leI c5679) (kLet_eq (k5682).symm (kLet_eq (k5685).symm (kif_f (xF_le c5705) (kif_t (leI c5720) rfl)))))), hP.sub (ws' := [(h, oX11 0 aw ai ab ac hi re aP ta po en be de fa a5 sp av an ak x2 aW aC ag aT aN aF), (aw, kcI cI 2179 fw), (av, kcI cI 400 g3), (an, kcI cI 10 g4), (ak, kcI cI 10 g5), (aW, kcJ cJ 4096 g6)]) [0, 1, 2, 3, 4, 5] rfl, hD.sub (ws' := [(h, oX11 0 aw ai ab ac hi re aP ta po en be de fa a5 sp av an ak x2 aW aC ag aT aN aF), (aw, kcI cI 2179 fw), (av, kcI cI 400 g3), (an, kcI cI 10 g4), (ak, kcI cI 10 g5), (aW, kcJ cJ 4096 g6)]) [0, 1, 2, 3, 4, 5] (by decide) rfl, hS, lv_sub (l' := [(4, .int y5676), (3, .int y5677), (2, .int y5039), (1, .int y5040), (0, .ref h)]) hl [0, 1, 2, 3, 4] rfl⟩
          · skip
            have k5722 : Rg y5040 1 1023 := rg_l2 (nleI c5720) (rg_lit (n := 0) (by decide)) hy5040 (by decide)
            refine lv_iload_n hx hb dX11_lack_88 rfl (lv_at hl 2 rfl) ?_
            refine kpurei (wc := []) hP hD hS hA [] rfl (by decide) (fun hPc hDc hFc => va_runS (As := [.int y5039]) (rest := []) ⟨hx, hb, hml, hown, hts⟩ (z_bitCount l D cI cJ cB cC y5039 H.size) (va_cwS 1 hts gX11_lack_J6_bitCount_0f7a4 rfl rfl rfl hdJ6_bitCount_0f7a4 ⟨Nat.le_of_ble_eq_true rfl, Nat.le_of_ble_eq_true rfl⟩) ⟨kBlind, fun U hU hW => ⟨rfl, by rw [hU], hN.warm hW, hE.pass hS hFc hW hU, by rw [hU]; exact hPc, va_K.moved hW.alike hK, hDc⟩⟩ rfl rfl hl.1 rfl (lv_room (Nat.le_of_ble_eq_true rfl)) dX11_lack_89 ⟨Nat.le_of_ble_eq_true rfl, Nat.le_of_ble_eq_true rfl⟩) (fun r5723 u H locs hw hP hS => ?_)
            obtain ⟨k5724, k5725⟩ := hw
            refine lv_iload_n hx hb dX11_lack_92 rfl (lv_at hl 3 rfl) ?_
            refine kpurei (wc := []) hP hD hS hA [] rfl (by decide) (fun hPc hDc hFc => va_runS (As := [.int y5040]) (rest := [.int r5723]) ⟨hx, hb, hml, hown, hts⟩ (z_bitCount l D cI cJ cB cC y5040 H.size) (va_cwS 1 hts gX11_lack_J6_bitCount_0f7a4 rfl rfl rfl hdJ6_bitCount_0f7a4 ⟨Nat.le_of_ble_eq_true rfl, Nat.le_of_ble_eq_true rfl⟩) ⟨kBlind, fun U hU hW => ⟨rfl, by rw [hU], hN.warm hW, hE.pass hS hFc hW hU, by rw [hU]; exact hPc, va_K.moved hW.alike hK, hDc⟩⟩ rfl rfl hl.1 rfl (lv_room (Nat.le_of_ble_eq_true rfl)) dX11_lack_93 ⟨Nat.le_of_ble_eq_true rfl, Nat.le_of_ble_eq_true rfl⟩) (fun r5726 u H locs hw hP hS => ?_)
            obtain ⟨k5727, k5728⟩ := hw
            refine lv_icmp_lt (tgt := 102) hx hb dX11_lack_96 (by decide) (fun c5729 => ?_) (fun c5729 => ?_)
            · skip
              have k5730 : Rg r5723 0 62 := rg_l1 (ltI c5729) k5724 k5727 (by decide)
              have k5731 : Rg r5726 1 63 := rg_l2 (ltI c5729) k5724 k5727 (by decide)
              exact hJ102 () _ _ _ ⟨(kC_eq rfl (kif_t (leI c5679) (kLet_eq (k5682).symm (kLet_eq (k5685).symm (kif_f (xF_le c5705) (kif_f (xF_le c5720) (kLet_eq (k5725).symm (kLet_eq (k5728).symm (kif_t (ltI c5729) rfl))))))))), hP.sub (ws' := [(h, oX11 0 aw ai ab ac hi re aP ta po en be de fa a5 sp av an ak x2 aW aC ag aT aN aF), (aw, kcI cI 2179 fw), (av, kcI cI 400 g3), (an, kcI cI 10 g4), (ak, kcI cI 10 g5), (aW, kcJ cJ 4096 g6)]) [0, 1, 2, 3, 4, 5] rfl, hD.sub (ws' := [(h, oX11 0 aw ai ab ac hi re aP ta po en be de fa a5 sp av an ak x2 aW aC ag aT aN aF), (aw, kcI cI 2179 fw), (av, kcI cI 400 g3), (an, kcI cI 10 g4), (ak, kcI cI 10 g5), (aW, kcJ cJ 4096 g6)]) [0, 1, 2, 3, 4, 5] (by decide) rfl, hS, lv_sub (l' := [(4, .int y5676), (3, .int y5677), (2, .int y5039), (1, .int y5040), (0, .ref h)]) hl [0, 1, 2, 3, 4] rfl⟩
            · skip
              refine lv_goto (tgt := 104) hx hb dX11_lack_99 (by decide) ?_
              exact hJ104 (y5040) _ _ _ ⟨(kC_eq rfl (kif_t (leI c5679) (kLet_eq (k5682).symm (kLet_eq (k5685).symm (kif_f (xF_le c5705) (kif_f (xF_le c5720) (kLet_eq (k5725).symm (kLet_eq (k5728).symm (kif_f (xF_lt c5729) rfl))))))))), (rg_w k5722 (by decide)), hP.sub (ws' := [(h, oX11 0 aw ai ab ac hi re aP ta po en be de fa a5 sp av an ak x2 aW aC ag aT aN aF), (aw, kcI cI 2179 fw), (av, kcI cI 400 g3), (an, kcI cI 10 g4), (ak, kcI cI 10 g5), (aW, kcJ cJ 4096 g6)]) [0, 1, 2, 3, 4, 5] rfl, hD.sub (ws' := [(h, oX11 0 aw ai ab ac hi re aP ta po en be de fa a5 sp av an ak x2 aW aC ag aT aN aF), (aw, kcI cI 2179 fw), (av, kcI cI 400 g3), (an, kcI cI 10 g4), (ak, kcI cI 10 g5), (aW, kcJ cJ 4096 g6)]) [0, 1, 2, 3, 4, 5] (by decide) rfl, hS, lv_sub (l' := [(4, .int y5676), (3, .int y5677), (2, .int y5039), (1, .int y5040), (0, .ref h)]) hl [0, 1, 2, 3, 4] rfl⟩
      · skip
        have k5732 : Rg y5676 0 9 := rg_l1 (nleI c5679) hy5676 k7 (by decide)
        have k5733 : Rg x2 1 10 := rg_l2 (nleI c5679) hy5676 k7 (by decide)
        refine lv_iload_n hx hb dX11_lack_44 rfl (lv_at hl 1 rfl) ?_
        refine lv_iload_n hx hb dX11_lack_45 rfl (lv_at hl 2 rfl) ?_
        refine lv_iload hx hb dX11_lack_46 (lv_at hl 0 rfl) ?_
        refine kpurei (wc := []) hP hD hS hA [] rfl (by decide) (fun hPc hDc hFc => va_runS (As := [.int y5039, .int y5676]) (rest := [.int y5677]) ⟨hx, hb, hml, hown, hts⟩ (r_has l D cI cJ cB cC y5039 y5676 H.size) (va_cwS 2 hts gX11_lack_X11_has rfl rfl rfl hdX11_has ⟨Nat.le_of_ble_eq_true rfl, Nat.le_of_ble_eq_true rfl⟩) ⟨kBlind, fun U hU hW => ⟨rfl, by rw [hU], hN.warm hW, hE.pass hS hFc hW hU, by rw [hU]; exact hPc, va_K.moved hW.alike hK, hDc⟩⟩ rfl rfl hl.1 rfl (lv_room (Nat.le_of_ble_eq_true rfl)) dX11_lack_48 ⟨Nat.le_of_ble_eq_true rfl, Nat.le_of_ble_eq_true rfl⟩) (fun r5734 u H locs hw hP hS => ?_)
        obtain ⟨k5735, k5736⟩ := hw
        refine k_join (hd := 65) (cells2 := 0) (slots2 := 0) (fun (u : Int32 × Int32) => match u with | (z5743, z5744) => [.int z5743, .int z5744]) (fun (u : Int32 × Int32) (H : Heap) (locs : List Loc) (ls : Array Slot) => match u with | (z5743, z5744) => (F_r_lack_l4_s x2.toInt (gT g5) y5039.toInt y5040.toInt (y5676.toInt, y5677.toInt) = F_r_lack_j7 y5676.toInt z5743.toInt z5744.toInt) ∧ va_P D vwCl [(h, oX11 0 aw ai ab ac hi re aP ta po en be de fa a5 sp av an ak x2 aW aC ag aT aN aF), (aw, kcI cI 2179 fw), (av, kcI cI 400 g3), (an, kcI cI 10 g4), (ak, kcI cI 10 g5), (aW, kcJ cJ 4096 g6)] H ∧ va_D A [(h, oX11 0 aw ai ab ac hi re aP ta po en be de fa a5 sp av an ak x2 aW aC ag aT aN aF), (aw, kcI cI 2179 fw), (av, kcI cI 400 g3), (an, kcI cI 10 g4), (ak, kcI cI 10 g5), (aW, kcJ cJ 4096 g6)] ∧ va_S A s.heap H locs ∧ lv_has ls 5 [(4, .int y5676), (3, .int y5677), (2, .int y5039), (1, .int y5040), (0, .ref h)]) (fun u H locs ls hI => ?_) (fun hJ65 => ?_)
        · skip
          clear hP hD hS hl
          obtain ⟨z5743, z5744⟩ := u
          obtain ⟨hF7, hP, hD, hS, hl⟩ := hI
          have hP : va_P D vwCl [(h, oX11 0 aw ai ab ac hi re aP ta po en be de fa a5 sp av an ak x2 aW aC ag aT aN aF), (aw, kcI cI 2179 fw), (av, kcI cI 400 g3), (an, kcI cI 10 g4), (ak, kcI cI 10 g5), (aW, kcJ cJ 4096 g6)] H := hP
          have hD : va_D A [(h, oX11 0 aw ai ab ac hi re aP ta po en be de fa a5 sp av an ak x2 aW aC ag aT aN aF), (aw, kcI cI 2179 fw), (av, kcI cI 400 g3), (an, kcI cI 10 g4), (ak, kcI cI 10 g5), (aW, kcJ cJ 4096 g6)] := hD
          have hl : lv_has ls 5 [(4, .int y5676), (3, .int y5677), (2, .int y5039), (1, .int y5040), (0, .ref h)] := hl
          show W _ _ _ _ _ _ _ _ _ _ _ _ _ _ _ (F0 m 65 ls [.int z5743, .int z5744])
          refine lv_ior hx hb dX11_lack_65 ?_
          refine lv_topi (fun x5745 ex5745 => ?_)
          refine lv_istore_n (lv' := [(3, .int x5745), (4, .int y5676), (2, .int y5039), (1, .int y5040), (0, .ref h)]) hx hb dX11_lack_66 rfl hl (by decide) rfl (fun ls hl => ?_)
          obtain ⟨x5746, ex5746⟩ : ∃ y : Int32, y = y5676 + 1 := ⟨_, rfl⟩
          refine lv_iinc (v := x5746) (lv' := [(4, .int x5746), (3, .int x5745), (2, .int y5039), (1, .int y5040), (0, .ref h)]) hx hb dX11_lack_67 hl (k := 1) rfl (by rw [ex5746]; rfl) (by decide) rfl (fun ls hl => ?_)
          have k5747 : Rg x5746 1 10 := rg_add ex5746 k5732 (rg_lit (n := 1) (by decide)) (by decide)
          refine lv_goto (tgt := 35) hx hb dX11_lack_70 (by decide) ?_
          exact ih5678 (x5746, x5745) _ _ _ (by show (10 - (x5746).toInt).toNat < (10 - (y5676).toInt).toNat; exact mu_up ex5746 k5732 k5747 (by decide)) ⟨(hF4.trans (kIter_go (hF7.trans (kLet_eq (ke_or ex5745) (kLet_eq (ti_add ex5746 k5732 (rg_lit (n := 1) (by decide)) (by decide) rfl rfl) rfl))))), (rg_w k5747 (by decide)), hP.sub (ws' := [(h, oX11 0 aw ai ab ac hi re aP ta po en be de fa a5 sp av an ak x2 aW aC ag aT aN aF), (aw, kcI cI 2179 fw), (av, kcI cI 400 g3), (an, kcI cI 10 g4), (ak, kcI cI 10 g5), (aW, kcJ cJ 4096 g6)]) [0, 1, 2, 3, 4, 5] rfl, hD.sub (ws' := [(h, oX11 0 aw ai ab ac hi re aP ta po en be de fa a5 sp av an ak x2 aW aC ag aT aN aF), (aw, kcI cI 2179 fw), (av, kcI cI 400 g3), (an, kcI cI 10 g4), (ak, kcI cI 10 g5), (aW, kcJ cJ 4096 g6)]) [0, 1, 2, 3, 4, 5] (by decide) rfl, hS, lv_sub (l' := [(4, .int x5746), (3, .int x5745), (2, .int y5039), (1, .int y5040), (0, .ref h)]) hl [0, 1, 2, 3, 4] rfl⟩
        refine lv_if_eq (tgt := 64) hx hb dX11_lack_51 (by decide) (fun c5748 => ?_) (fun c5748 => ?_)
        · skip
          have k5749 : Rg r5734 0 0 := rg_q1 (eqI c5748) k5735 (rg_lit (n := 0) (by decide)) (by decide)
          refine lv_iconst (v := 0) hx hb dX11_lack_64 (by decide) ?_
          exact hJ65 ((0 : Int32), y5677) _ _ _ ⟨(kC_eq rfl (kif_f (xF_le c5679) (kLet_eq (k5736).symm (kif_t (eqI c5748) rfl)))), hP.sub (ws' := [(h, oX11 0 aw ai ab ac hi re aP ta po en be de fa a5 sp av an ak x2 aW aC ag aT aN aF), (aw, kcI cI 2179 fw), (av, kcI cI 400 g3), (an, kcI cI 10 g4), (ak, kcI cI 10 g5), (aW, kcJ cJ 4096 g6)]) [0, 1, 2, 3, 4, 5] rfl, hD.sub (ws' := [(h, oX11 0 aw ai ab ac hi re aP ta po en be de fa a5 sp av an ak x2 aW aC ag aT aN aF), (aw, kcI cI 2179 fw), (av, kcI cI 400 g3), (an, kcI cI 10 g4), (ak, kcI cI 10 g5), (aW, kcJ cJ 4096 g6)]) [0, 1, 2, 3, 4, 5] (by decide) rfl, hS, lv_sub (l' := [(4, .int y5676), (3, .int y5677), (2, .int y5039), (1, .int y5040), (0, .ref h)]) hl [0, 1, 2, 3, 4] rfl⟩
        · skip
          have k5750 : Rg r5734 1 1 := rg_n1 (neI c5748) k5735 (rg_lit (n := 0) (by decide)) (by decide)
          refine lv_aload_n hx hb dX11_lack_54 rfl (lv_at hl 4 rfl) ?_
          refine va_get (D := D) (ci := 10) (v := .ref ak) (C := RX11) (T := TX11) (N := 26) hx hb hts iG_X11 hown hK hP 0 rfl rfl 18 (by decide) (hts _ w5_13) (fun _ h9 => h9) rfl dX11_lack_55 ?_
          refine lv_iload hx hb dX11_lack_58 (lv_at hl 0 rfl) ?_
          refine va_iald hx hb hK hP 4 0 rfl rfl (rg_in k5732 (by decide)) dX11_lack_60 ?_
          refine lv_topi (fun x5751 ex5751 => ?_)
          refine lv_goto (tgt := 65) hx hb dX11_lack_61 (by decide) ?_
          exact hJ65 (x5751, y5677) _ _ _ ⟨(kC_eq rfl (kif_f (xF_le c5679) (kLet_eq (k5736).symm (kif_f (neI c5748) (kLet_eq (ke_ld ex5751) rfl))))), hP.sub (ws' := [(h, oX11 0 aw ai ab ac hi re aP ta po en be de fa a5 sp av an ak x2 aW aC ag aT aN aF), (aw, kcI cI 2179 fw), (av, kcI cI 400 g3), (an, kcI cI 10 g4), (ak, kcI cI 10 g5), (aW, kcJ cJ 4096 g6)]) [0, 1, 2, 3, 4, 5] rfl, hD.sub (ws' := [(h, oX11 0 aw ai ab ac hi re aP ta po en be de fa a5 sp av an ak x2 aW aC ag aT aN aF), (aw, kcI cI 2179 fw), (av, kcI cI 400 g3), (an, kcI cI 10 g4), (ak, kcI cI 10 g5), (aW, kcJ cJ 4096 g6)]) [0, 1, 2, 3, 4, 5] (by decide) rfl, hS, lv_sub (l' := [(4, .int y5676), (3, .int y5677), (2, .int y5039), (1, .int y5040), (0, .ref h)]) hl [0, 1, 2, 3, 4] rfl⟩
  · skip
    have k5752 : Rg x10 1 1 := rg_l2 (nleI c12) (rg_lit (n := 0) (by decide)) k11 (by decide)
    refine lv_iconst (v := 0) hx hb dX11_lack_14 (by decide) ?_
    have hP9 := hP.sub (ws' := [(h, oX11 0 aw ai ab ac hi re aP ta po en be de fa a5 sp av an ak x2 aW aC ag aT aN aF), (aw, kcI cI 2179 fw), (av, kcI cI 400 g3), (an, kcI cI 10 g4), (ak, kcI cI 10 g5), (aW, kcJ cJ 4096 g6)]) [0, 1, 2, 3, 4, 5] rfl
    have hD9 := hD.sub (ws' := [(h, oX11 0 aw ai ab ac hi re aP ta po en be de fa a5 sp av an ak x2 aW aC ag aT aN aF), (aw, kcI cI 2179 fw), (av, kcI cI 400 g3), (an, kcI cI 10 g4), (ak, kcI cI 10 g5), (aW, kcJ cJ 4096 g6)]) [0, 1, 2, 3, 4, 5] (by decide) rfl
    exact W.iret (v := 0) hx hb hr (fun t ht hW => ⟨⟨0, (x2, g3, g4, g5, g6), rfl, ⟨k7, k8, (rg_w (rg_lit (n := 0) (by decide)) (by decide)), (kC_eq k9 (kC_eq rfl (kC_eq rfl (kC_eq rfl (kC_eq rfl (kLet_eq (ke_cmp ex10) (kif_f (xF_le c12) rfl)))))))⟩, by rw [ht]; exact hP9, va_K.moved hW.alike hK, hD9⟩, hS.F ht⟩) hS.2.2 dX11_lack_15

