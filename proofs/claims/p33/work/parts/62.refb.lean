def kwX11_gives : List Cond := .code yX11_gives cX11_gives 3 none :: kG
theorem hdX11_gives : yX11_gives.cls ≠ "java/lang/invoke/MethodHandle" ∧ yX11_gives.cls ≠ "java/lang/invoke/VarHandle" ∧ (parseMethodDescriptor yX11_gives.desc).map (fun d => d.parameters.length) = some 2 := by decide +kernel
theorem gX11_gives_X11_of : GoodIn kG (wsV RX11 156 RX11 yX11_of kwX11_of) := gK w21_9 (gK w21_10 (gK w21_11 (gK w0_5 (gK w21_12 gGG))))
theorem gX11_gives_X11_sets : GoodIn kG (wsV RX11 150 RX11 yX11_sets kwX11_sets) := gK w20_21 (gK w20_22 (gK w20_23 (gK w0_5 (gK w21_0 gGG))))
theorem gX11_gives_X11_setsMan : GoodIn kG (wsV RX11 141 RX11 yX11_setsMan kwX11_setsMan) := gK w20_9 (gK w20_10 (gK w20_11 (gK w0_5 (gK w20_12 gGG))))
theorem dX11_gives_0 : decode cX11_gives 0 = .ok (.aload_n 0, 1) := by decide +kernel
theorem dX11_gives_1 : decode cX11_gives 1 = .ok (.iload_n 1, 1) := by decide +kernel
theorem dX11_gives_2 : decode cX11_gives 2 = .ok (.iconst 4, 1) := by decide +kernel
theorem dX11_gives_3 : decode cX11_gives 3 = .ok (.iload_n 2, 1) := by decide +kernel
theorem dX11_gives_4 : decode cX11_gives 4 = .ok (.invokevirtual 141, 3) := by decide +kernel
theorem dX11_gives_7 : decode cX11_gives 7 = .ok (.aload_n 0, 1) := by decide +kernel
theorem dX11_gives_8 : decode cX11_gives 8 = .ok (.iload_n 2, 1) := by decide +kernel
theorem dX11_gives_9 : decode cX11_gives 9 = .ok (.iconst 5, 1) := by decide +kernel
theorem dX11_gives_10 : decode cX11_gives 10 = .ok (.iload_n 1, 1) := by decide +kernel
theorem dX11_gives_11 : decode cX11_gives 11 = .ok (.invokevirtual 150, 3) := by decide +kernel
theorem dX11_gives_14 : decode cX11_gives 14 = .ok (.aload_n 0, 1) := by decide +kernel
theorem dX11_gives_15 : decode cX11_gives 15 = .ok (.iload_n 2, 1) := by decide +kernel
theorem dX11_gives_16 : decode cX11_gives 16 = .ok (.iconst 2, 1) := by decide +kernel
theorem dX11_gives_17 : decode cX11_gives 17 = .ok (.aload_n 0, 1) := by decide +kernel
theorem dX11_gives_18 : decode cX11_gives 18 = .ok (.iload_n 2, 1) := by decide +kernel
theorem dX11_gives_19 : decode cX11_gives 19 = .ok (.iconst 2, 1) := by decide +kernel
theorem dX11_gives_20 : decode cX11_gives 20 = .ok (.invokevirtual 156, 3) := by decide +kernel
theorem dX11_gives_23 : decode cX11_gives 23 = .ok (.iconst 2, 1) := by decide +kernel
theorem dX11_gives_24 : decode cX11_gives 24 = .ok (.idiv, 1) := by decide +kernel
theorem dX11_gives_25 : decode cX11_gives 25 = .ok (.invokevirtual 150, 3) := by decide +kernel
theorem dX11_gives_28 : decode cX11_gives 28 = .ok (.return_, 1) := by decide +kernel
set_option maxHeartbeats 4000000 in
set_option maxRecDepth 100000 in
/-- reference: gives -/
theorem r_gives (l : Launch) (D : va_G) (cI cJ cB cC : ClassId) (h : Nat) (th : Int32) (aw : Nat) (ai : Nat) (ab : Nat) (ac : Nat) (hi : Int32) (re : Int32) (aP : Nat) (ta : Int32) (po : Int32) (en : Int32) (be : Int32) (de : Int32) (fa : Int32) (a5 : Nat) (sp : Int32) (av : Nat) (an : Nat) (ak : Nat) (ne : Int32) (aW : Nat) (aC : Nat) (ag : Nat) (aT : Nat) (aN : Nat) (aF : Nat) (fw : Nat → Int32) (mm : Int32) (b : Int32) (sz : Nat) (H_mm : Rg mm 0 9) (H_b : Rg b 0 11) (H_fw_W : wW fw) (H_fw_B : wB fw) (H_fw_L : wL fw) : Met l yX11_gives kwX11_gives ({ frames := 1, cells := 0, slots := 0, locals := 23 } : Room) (kPre D (kT cI cJ cB cC) sz [(h, oX11 th aw ai ab ac hi re aP ta po en be de fa a5 sp av an ak ne aW aC ag aT aN aF), (aw, .inl (cI, 2179, .inl fw))] [.ref h, .int mm, .int b]) (va_Qv (fun (f0_ : (Nat → Int32)) => wB f0_ ∧ wL f0_ ∧ wW f0_) (fun (f0_ : (Nat → Int32)) (t : State) => kB D (kT cI cJ cB cC) (va_A [(h, oX11 th aw ai ab ac hi re aP ta po en be de fa a5 sp av an ak ne aW aC ag aT aN aF), (aw, .inl (cI, 2179, .inl fw))] sz) [(h, oX11 th aw ai ab ac hi re aP ta po en be de fa a5 sp av an ak ne aW aC ag aT aN aF), (aw, .inl (cI, 2179, .inl f0_))] t) (va_A [(h, oX11 th aw ai ab ac hi re aP ta po en be de fa a5 sp av an ak ne aW aC ag aT aN aF), (aw, .inl (cI, 2179, .inl fw))] sz)) 0 0 (va_A [(h, oX11 th aw ai ab ac hi re aP ta po en be de fa a5 sp av an ak ne aW aC ag aT aN aF), (aw, .inl (cI, 2179, .inl fw))] sz) := by
  refine Met.ofW (cc := cX11_gives) (maxL := 3) (ret := none) (by decide) rfl ?_
  intro p e s m args below meth c s₁ B hml hv
  obtain ⟨rfl, hsz, hN, hE, hP, hK, hD0⟩ := hv
  have hx := B.exec
  have hb := B.bytes
  have hr := B.returns
  have hts := fun (w : Cond) (h : w ∈ kG) => atoms_spec (ws := kwX11_gives) B.pre w (List.mem_cons_of_mem _ h)
  have hown : s.vm.findClass RX11 = some m.cls := findClass_of_methodNamed B.named
  subst hsz
  have hD := hD0.self (sz := s.heap.size)
  generalize hAe : va_A [(h, oX11 th aw ai ab ac hi re aP ta po en be de fa a5 sp av an ak ne aW aC ag aT aN aF), (aw, .inl (cI, 2179, .inl fw))] s.heap.size = A at hD hE ⊢
  have hA : ∀ q : Nat, s.heap.size ≤ q → A q := fun q h => by rw [← hAe]; exact Or.inr h
  have hl := lv_entry ([.ref h, .int mm, .int b]) (n := 3) (Nat.le_of_ble_eq_true rfl)
  rw [lg_entry_eq]
  generalize (lg_sl ([.ref h, .int mm, .int b]) ++ List.replicate (3 - (lg_sl ([.ref h, .int mm, .int b])).length) Slot.unset).toArray = ls at hl ⊢
  have hl : lv_has ls 3 [(0, .ref h), (1, .int mm), (2, .int b)] := hl
  obtain ⟨H, hH0⟩ : ∃ H, H = s.heap := ⟨_, rfl⟩
  have hS : va_S A s.heap H [] := by rw [hH0]; exact va_S.rf
  have hP : va_P D vwCl [(h, oX11 th aw ai ab ac hi re aP ta po en be de fa a5 sp av an ak ne aW aC ag aT aN aF), (aw, .inl (cI, 2179, .inl fw))] H := by rw [hH0]; exact hP
  refine kHeap hH0 ?_
  clear hH0
  refine lv_aload_n hx hb dX11_gives_0 rfl (lv_at hl 0 rfl) ?_
  refine lv_iload_n hx hb dX11_gives_1 rfl (lv_at hl 1 rfl) ?_
  refine lv_iconst (v := 4) hx hb dX11_gives_2 (by decide) ?_
  refine lv_iload_n hx hb dX11_gives_3 rfl (lv_at hl 2 rfl) ?_
  refine kcallv (wc := [(h, oX11 th aw ai ab ac hi re aP ta po en be de fa a5 sp av an ak ne aW aC ag aT aN aF), (aw, .inl (cI, 2179, .inl fw))]) (wr := []) hP hD hS hA [0, 1] [] rfl rfl (by decide) (by decide) (by decide) (fun hPc hDc hFc => va_runV (As := [.int mm, .int 4, .int b]) (rest := []) ⟨hx, hb, hml, hown, hts⟩ (r_setsMan4 l D cI cJ cB cC h th aw ai ab ac hi re aP ta po en be de fa a5 sp av an ak ne aW aC ag aT aN aF fw mm b H.size H_mm (rg_w H_b (by decide)) H_fw_W H_fw_B H_fw_L) (cwV 3 hts gX11_gives_X11_setsMan rfl rfl rfl ⟨rfl, hdX11_setsMan⟩ ⟨Nat.le_of_ble_eq_true rfl, Nat.le_of_ble_eq_true rfl⟩) ⟨kBlind, va_recv hK hPc (ci := 10) (q0 := 0) rfl rfl, fun U hU hW => ⟨rfl, by rw [hU], hN.warm hW, hE.pass hS hFc hW hU, by rw [hU]; exact hPc, va_K.moved hW.alike hK, hDc⟩⟩ rfl rfl hl.1 rfl (lv_room (Nat.le_of_ble_eq_true rfl)) dX11_gives_4 ⟨Nat.le_of_ble_eq_true rfl, Nat.le_of_ble_eq_true rfl⟩) (fun u H locs hw hP hD hS => ?_)
  obtain ⟨g1, rfl⟩ : ∃ z, z = u := ⟨_, rfl⟩
  have hP : va_P D vwCl [(h, oX11 th aw ai ab ac hi re aP ta po en be de fa a5 sp av an ak ne aW aC ag aT aN aF), (aw, .inl (cI, 2179, .inl g1))] H := hP
  have hD : va_D A [(h, oX11 th aw ai ab ac hi re aP ta po en be de fa a5 sp av an ak ne aW aC ag aT aN aF), (aw, .inl (cI, 2179, .inl g1))] := hD
  obtain ⟨k2, k3, k4⟩ := hw
  refine lv_aload_n hx hb dX11_gives_7 rfl (lv_at hl 0 rfl) ?_
  refine lv_iload_n hx hb dX11_gives_8 rfl (lv_at hl 2 rfl) ?_
  refine lv_iconst (v := 5) hx hb dX11_gives_9 (by decide) ?_
  refine lv_iload_n hx hb dX11_gives_10 rfl (lv_at hl 1 rfl) ?_
  refine kcallv (wc := [(h, oX11 th aw ai ab ac hi re aP ta po en be de fa a5 sp av an ak ne aW aC ag aT aN aF), (aw, .inl (cI, 2179, .inl g1))]) (wr := []) hP hD hS hA [0, 1] [] rfl rfl (by decide) (by decide) (by decide) (fun hPc hDc hFc => va_runV (As := [.int b, .int 5, .int mm]) (rest := []) ⟨hx, hb, hml, hown, hts⟩ (r_sets5 l D cI cJ cB cC h th aw ai ab ac hi re aP ta po en be de fa a5 sp av an ak ne aW aC ag aT aN aF g1 b mm H.size H_b (rg_w H_mm (by decide)) k4 k2 k3) (cwV 3 hts gX11_gives_X11_sets rfl rfl rfl ⟨rfl, hdX11_sets⟩ ⟨Nat.le_of_ble_eq_true rfl, Nat.le_of_ble_eq_true rfl⟩) ⟨kBlind, va_recv hK hPc (ci := 10) (q0 := 0) rfl rfl, fun U hU hW => ⟨rfl, by rw [hU], hN.warm hW, hE.pass hS hFc hW hU, by rw [hU]; exact hPc, va_K.moved hW.alike hK, hDc⟩⟩ rfl rfl hl.1 rfl (lv_room (Nat.le_of_ble_eq_true rfl)) dX11_gives_11 ⟨Nat.le_of_ble_eq_true rfl, Nat.le_of_ble_eq_true rfl⟩) (fun u H locs hw hP hD hS => ?_)
  obtain ⟨g5, rfl⟩ : ∃ z, z = u := ⟨_, rfl⟩
  have hP : va_P D vwCl [(h, oX11 th aw ai ab ac hi re aP ta po en be de fa a5 sp av an ak ne aW aC ag aT aN aF), (aw, .inl (cI, 2179, .inl g5))] H := hP
  have hD : va_D A [(h, oX11 th aw ai ab ac hi re aP ta po en be de fa a5 sp av an ak ne aW aC ag aT aN aF), (aw, .inl (cI, 2179, .inl g5))] := hD
  obtain ⟨k6, k7, k8⟩ := hw
  refine lv_aload_n hx hb dX11_gives_14 rfl (lv_at hl 0 rfl) ?_
  refine lv_iload_n hx hb dX11_gives_15 rfl (lv_at hl 2 rfl) ?_
  refine lv_iconst (v := 2) hx hb dX11_gives_16 (by decide) ?_
  refine lv_aload_n hx hb dX11_gives_17 rfl (lv_at hl 0 rfl) ?_
  refine lv_iload_n hx hb dX11_gives_18 rfl (lv_at hl 2 rfl) ?_
  refine lv_iconst (v := 2) hx hb dX11_gives_19 (by decide) ?_
  refine kpurei (wc := [(h, oX11 th aw ai ab ac hi re aP ta po en be de fa a5 sp av an ak ne aW aC ag aT aN aF), (aw, .inl (cI, 2179, .inl g5))]) hP hD hS hA [0, 1] rfl (by decide) (fun hPc hDc hFc => va_runV (As := [.int b, .int 2]) (rest := [.int 2, .int b, .ref h]) ⟨hx, hb, hml, hown, hts⟩ (r_of2 l D cI cJ cB cC h th aw ai ab ac hi re aP ta po en be de fa a5 sp av an ak ne aW aC ag aT aN aF g5 b H.size H_b k8) (cwV 2 hts gX11_gives_X11_of rfl rfl rfl ⟨rfl, hdX11_of⟩ ⟨Nat.le_of_ble_eq_true rfl, Nat.le_of_ble_eq_true rfl⟩) ⟨kBlind, va_recv hK hPc (ci := 10) (q0 := 0) rfl rfl, fun U hU hW => ⟨rfl, by rw [hU], hN.warm hW, hE.pass hS hFc hW hU, by rw [hU]; exact hPc, va_K.moved hW.alike hK, hDc⟩⟩ rfl rfl hl.1 rfl (lv_room (Nat.le_of_ble_eq_true rfl)) dX11_gives_20 ⟨Nat.le_of_ble_eq_true rfl, Nat.le_of_ble_eq_true rfl⟩) (fun r9 u H locs hw hP hS => ?_)
  have k10 := hw
  refine lv_iconst (v := 2) hx hb dX11_gives_23 (by decide) ?_
  refine lv_idiv hx hb dX11_gives_24 (by decide) ?_
  refine lv_topi (fun x11 ex11 => ?_)
  refine kcallv (wc := [(h, oX11 th aw ai ab ac hi re aP ta po en be de fa a5 sp av an ak ne aW aC ag aT aN aF), (aw, .inl (cI, 2179, .inl g5))]) (wr := []) hP hD hS hA [0, 1] [] rfl rfl (by decide) (by decide) (by decide) (fun hPc hDc hFc => va_runV (As := [.int b, .int 2, .int x11]) (rest := []) ⟨hx, hb, hml, hown, hts⟩ (r_sets2 l D cI cJ cB cC h th aw ai ab ac hi re aP ta po en be de fa a5 sp av an ak ne aW aC ag aT aN aF g5 b x11 H.size H_b k8 k6 k7) (cwV 3 hts gX11_gives_X11_sets rfl rfl rfl ⟨rfl, hdX11_sets⟩ ⟨Nat.le_of_ble_eq_true rfl, Nat.le_of_ble_eq_true rfl⟩) ⟨kBlind, va_recv hK hPc (ci := 10) (q0 := 0) rfl rfl, fun U hU hW => ⟨rfl, by rw [hU], hN.warm hW, hE.pass hS hFc hW hU, by rw [hU]; exact hPc, va_K.moved hW.alike hK, hDc⟩⟩ rfl rfl hl.1 rfl (lv_room (Nat.le_of_ble_eq_true rfl)) dX11_gives_25 ⟨Nat.le_of_ble_eq_true rfl, Nat.le_of_ble_eq_true rfl⟩) (fun u H locs hw hP hD hS => ?_)
  obtain ⟨g12, rfl⟩ : ∃ z, z = u := ⟨_, rfl⟩
  have hP : va_P D vwCl [(h, oX11 th aw ai ab ac hi re aP ta po en be de fa a5 sp av an ak ne aW aC ag aT aN aF), (aw, .inl (cI, 2179, .inl g12))] H := hP
  have hD : va_D A [(h, oX11 th aw ai ab ac hi re aP ta po en be de fa a5 sp av an ak ne aW aC ag aT aN aF), (aw, .inl (cI, 2179, .inl g12))] := hD
  obtain ⟨k13, k14, k15⟩ := hw
  have hP9 := hP.sub (ws' := [(h, oX11 th aw ai ab ac hi re aP ta po en be de fa a5 sp av an ak ne aW aC ag aT aN aF), (aw, .inl (cI, 2179, .inl g12))]) [0, 1] rfl
  have hD9 := hD.sub (ws' := [(h, oX11 th aw ai ab ac hi re aP ta po en be de fa a5 sp av an ak ne aW aC ag aT aN aF), (aw, .inl (cI, 2179, .inl g12))]) [0, 1] (by decide) rfl
  exact W.vret hx hb hr (fun t ht hW => ⟨⟨(g12), rfl, ⟨k13, k14, k15⟩, by rw [ht]; exact hP9, va_K.moved hW.alike hK, hD9⟩, hS.F ht⟩) hS.2.2 dX11_gives_28

def kwX11_chest : List Cond := .code yX11_chest cX11_chest 3 (some .int) :: kG
theorem hdX11_chest : yX11_chest.cls ≠ "java/lang/invoke/MethodHandle" ∧ yX11_chest.cls ≠ "java/lang/invoke/VarHandle" ∧ (parseMethodDescriptor yX11_chest.desc).map (fun d => d.parameters.length) = some 0 := by decide +kernel
theorem gX11_chest_X11_of : GoodIn kG (wsV RX11 156 RX11 yX11_of kwX11_of) := gK w21_9 (gK w21_10 (gK w21_11 (gK w0_5 (gK w21_12 gGG))))
theorem gX11_chest_X11_shirts : GoodIn kG (wsV RX11 79 RX11 yX11_shirts kwX11_shirts) := gK w20_17 (gK w20_18 (gK w20_19 (gK w0_5 (gK w20_20 gGG))))
theorem dX11_chest_0 : decode cX11_chest 0 = .ok (.iconst 0, 1) := by decide +kernel
theorem dX11_chest_1 : decode cX11_chest 1 = .ok (.istore_n 1, 1) := by decide +kernel
theorem dX11_chest_2 : decode cX11_chest 2 = .ok (.iconst 0, 1) := by decide +kernel
theorem dX11_chest_3 : decode cX11_chest 3 = .ok (.istore_n 2, 1) := by decide +kernel
theorem dX11_chest_4 : decode cX11_chest 4 = .ok (.iload_n 2, 1) := by decide +kernel
theorem dX11_chest_5 : decode cX11_chest 5 = .ok (.aload_n 0, 1) := by decide +kernel
theorem dX11_chest_6 : decode cX11_chest 6 = .ok (.invokevirtual 79, 3) := by decide +kernel
theorem dX11_chest_9 : decode cX11_chest 9 = .ok (.if_icmp .ge 28, 3) := by decide +kernel
theorem dX11_chest_12 : decode cX11_chest 12 = .ok (.iload_n 1, 1) := by decide +kernel
theorem dX11_chest_13 : decode cX11_chest 13 = .ok (.aload_n 0, 1) := by decide +kernel
theorem dX11_chest_14 : decode cX11_chest 14 = .ok (.iload_n 2, 1) := by decide +kernel
theorem dX11_chest_15 : decode cX11_chest 15 = .ok (.iconst 5, 1) := by decide +kernel
theorem dX11_chest_16 : decode cX11_chest 16 = .ok (.invokevirtual 156, 3) := by decide +kernel
theorem dX11_chest_19 : decode cX11_chest 19 = .ok (.ifCond .ge 9, 3) := by decide +kernel
theorem dX11_chest_22 : decode cX11_chest 22 = .ok (.iconst 1, 1) := by decide +kernel
theorem dX11_chest_23 : decode cX11_chest 23 = .ok (.iload_n 2, 1) := by decide +kernel
theorem dX11_chest_24 : decode cX11_chest 24 = .ok (.ishl, 1) := by decide +kernel
theorem dX11_chest_25 : decode cX11_chest 25 = .ok (.goto 4, 3) := by decide +kernel
theorem dX11_chest_28 : decode cX11_chest 28 = .ok (.iconst 0, 1) := by decide +kernel
theorem dX11_chest_29 : decode cX11_chest 29 = .ok (.ior, 1) := by decide +kernel
theorem dX11_chest_30 : decode cX11_chest 30 = .ok (.istore_n 1, 1) := by decide +kernel
theorem dX11_chest_31 : decode cX11_chest 31 = .ok (.iinc 2 1, 3) := by decide +kernel
theorem dX11_chest_34 : decode cX11_chest 34 = .ok (.goto (-30), 3) := by decide +kernel
theorem dX11_chest_37 : decode cX11_chest 37 = .ok (.iload_n 1, 1) := by decide +kernel
theorem dX11_chest_38 : decode cX11_chest 38 = .ok (.ireturn, 1) := by decide +kernel
set_option maxHeartbeats 4000000 in
set_option maxRecDepth 100000 in
/-- reference: chest -/
theorem r_chest (l : Launch) (D : va_G) (cI cJ cB cC : ClassId) (h : Nat) (th : Int32) (aw : Nat) (ai : Nat) (ab : Nat) (ac : Nat) (hi : Int32) (re : Int32) (aP : Nat) (ta : Int32) (po : Int32) (en : Int32) (be : Int32) (de : Int32) (fa : Int32) (a5 : Nat) (sp : Int32) (av : Nat) (an : Nat) (ak : Nat) (ne : Int32) (aW : Nat) (aC : Nat) (ag : Nat) (aT : Nat) (aN : Nat) (aF : Nat) (fw : Nat → Int32) (sz : Nat) (H_fw_W : wW fw) : Met l yX11_chest kwX11_chest ({ frames := 1, cells := 0, slots := 0, locals := 22 } : Room) (kPre D (kT cI cJ cB cC) sz [(h, oX11 th aw ai ab ac hi re aP ta po en be de fa a5 sp av an ak ne aW aC ag aT aN aF), (aw, .inl (cI, 2179, .inl fw))] [.ref h]) (va_Qi (fun (r : Int32) (_ : Unit) => Rg r 0 4095) (fun (_ : Unit) (t : State) => kB D (kT cI cJ cB cC) (va_A [(h, oX11 th aw ai ab ac hi re aP ta po en be de fa a5 sp av an ak ne aW aC ag aT aN aF), (aw, .inl (cI, 2179, .inl fw))] sz) [(h, oX11 th aw ai ab ac hi re aP ta po en be de fa a5 sp av an ak ne aW aC ag aT aN aF), (aw, .inl (cI, 2179, .inl fw))] t) (va_A [(h, oX11 th aw ai ab ac hi re aP ta po en be de fa a5 sp av an ak ne aW aC ag aT aN aF), (aw, .inl (cI, 2179, .inl fw))] sz)) 0 0 (va_A [(h, oX11 th aw ai ab ac hi re aP ta po en be de fa a5 sp av an ak ne aW aC ag aT aN aF), (aw, .inl (cI, 2179, .inl fw))] sz) := by
  refine Met.ofW (cc := cX11_chest) (maxL := 3) (ret := (some .int)) (by decide) rfl ?_
  intro p e s m args below meth c s₁ B hml hv
  obtain ⟨rfl, hsz, hN, hE, hP, hK, hD0⟩ := hv
  have hx := B.exec
  have hb := B.bytes
  have hr := B.returns
  have hts := fun (w : Cond) (h : w ∈ kG) => atoms_spec (ws := kwX11_chest) B.pre w (List.mem_cons_of_mem _ h)
  have hown : s.vm.findClass RX11 = some m.cls := findClass_of_methodNamed B.named
  subst hsz
  have hD := hD0.self (sz := s.heap.size)
  generalize hAe : va_A [(h, oX11 th aw ai ab ac hi re aP ta po en be de fa a5 sp av an ak ne aW aC ag aT aN aF), (aw, .inl (cI, 2179, .inl fw))] s.heap.size = A at hD hE ⊢
  have hA : ∀ q : Nat, s.heap.size ≤ q → A q := fun q h => by rw [← hAe]; exact Or.inr h
  have hl := lv_entry ([.ref h]) (n := 3) (Nat.le_of_ble_eq_true rfl)
  rw [lg_entry_eq]
  generalize (lg_sl ([.ref h]) ++ List.replicate (3 - (lg_sl ([.ref h])).length) Slot.unset).toArray = ls at hl ⊢
  have hl : lv_has ls 3 [(0, .ref h)] := hl
  obtain ⟨H, hH0⟩ : ∃ H, H = s.heap := ⟨_, rfl⟩
  have hS : va_S A s.heap H [] := by rw [hH0]; exact va_S.rf
  have hP : va_P D vwCl [(h, oX11 th aw ai ab ac hi re aP ta po en be de fa a5 sp av an ak ne aW aC ag aT aN aF), (aw, .inl (cI, 2179, .inl fw))] H := by rw [hH0]; exact hP
  refine kHeap hH0 ?_
  clear hH0
  refine lv_iconst (v := 0) hx hb dX11_chest_0 (by decide) ?_
  refine lv_istore_n (lv' := [(1, .int 0), (0, .ref h)]) hx hb dX11_chest_1 rfl hl (by decide) rfl (fun ls hl => ?_)
  refine lv_iconst (v := 0) hx hb dX11_chest_2 (by decide) ?_
  refine lv_istore_n (lv' := [(2, .int 0), (1, .int 0), (0, .ref h)]) hx hb dX11_chest_3 rfl hl (by decide) rfl (fun ls hl => ?_)
  refine k_loop (hd := 4) (fun (u : Int32 × Int32) => match u with | (y343, y344) => (12 - (y343).toInt).toNat) (fun (u : Int32 × Int32) (H : Heap) (locs : List Loc) (ls : Array Slot) => match u with | (y343, y344) => Rg y343 0 12 ∧ Rg y344 0 4095 ∧ va_P D vwCl [(h, oX11 th aw ai ab ac hi re aP ta po en be de fa a5 sp av an ak ne aW aC ag aT aN aF), (aw, .inl (cI, 2179, .inl fw))] H ∧ va_D A [(h, oX11 th aw ai ab ac hi re aP ta po en be de fa a5 sp av an ak ne aW aC ag aT aN aF), (aw, .inl (cI, 2179, .inl fw))] ∧ va_S A s.heap H locs ∧ lv_has ls 3 [(2, .int y343), (1, .int y344), (0, .ref h)]) ((0 : Int32), (0 : Int32)) ⟨(rg_w (rg_lit (n := 0) (by decide)) (by decide)), (rg_w (rg_lit (n := 0) (by decide)) (by decide)), hP.sub (ws' := [(h, oX11 th aw ai ab ac hi re aP ta po en be de fa a5 sp av an ak ne aW aC ag aT aN aF), (aw, .inl (cI, 2179, .inl fw))]) [0, 1] rfl, hD.sub (ws' := [(h, oX11 th aw ai ab ac hi re aP ta po en be de fa a5 sp av an ak ne aW aC ag aT aN aF), (aw, .inl (cI, 2179, .inl fw))]) [0, 1] (by decide) rfl, hS, lv_sub (l' := [(2, .int 0), (1, .int 0), (0, .ref h)]) hl [0, 1, 2] rfl⟩ (fun u H locs ls hI ih345 => ?_)
  clear hP hD hS hl
  obtain ⟨y343, y344⟩ := u
  obtain ⟨hy343, hy344, hP, hD, hS, hl⟩ := hI
  have hP : va_P D vwCl [(h, oX11 th aw ai ab ac hi re aP ta po en be de fa a5 sp av an ak ne aW aC ag aT aN aF), (aw, .inl (cI, 2179, .inl fw))] H := hP
  have hD : va_D A [(h, oX11 th aw ai ab ac hi re aP ta po en be de fa a5 sp av an ak ne aW aC ag aT aN aF), (aw, .inl (cI, 2179, .inl fw))] := hD
  have hl : lv_has ls 3 [(2, .int y343), (1, .int y344), (0, .ref h)] := hl
  refine lv_iload_n hx hb dX11_chest_4 rfl (lv_at hl 0 rfl) ?_
  refine lv_aload_n hx hb dX11_chest_5 rfl (lv_at hl 2 rfl) ?_
  refine kpurei (wc := [(h, oX11 th aw ai ab ac hi re aP ta po en be de fa a5 sp av an ak ne aW aC ag aT aN aF), (aw, .inl (cI, 2179, .inl fw))]) hP hD hS hA [0, 1] rfl (by decide) (fun hPc hDc hFc => va_runV (As := []) (rest := [.int y343]) ⟨hx, hb, hml, hown, hts⟩ (r_shirts l D cI cJ cB cC h th aw ai ab ac hi re aP ta po en be de fa a5 sp av an ak ne aW aC ag aT aN aF fw H.size H_fw_W) (cwV 0 hts gX11_chest_X11_shirts rfl rfl rfl ⟨rfl, hdX11_shirts⟩ ⟨Nat.le_of_ble_eq_true rfl, Nat.le_of_ble_eq_true rfl⟩) ⟨kBlind, va_recv hK hPc (ci := 10) (q0 := 0) rfl rfl, fun U hU hW => ⟨rfl, by rw [hU], hN.warm hW, hE.pass hS hFc hW hU, by rw [hU]; exact hPc, va_K.moved hW.alike hK, hDc⟩⟩ rfl rfl hl.1 rfl (lv_room (Nat.le_of_ble_eq_true rfl)) dX11_chest_6 ⟨Nat.le_of_ble_eq_true rfl, Nat.le_of_ble_eq_true rfl⟩) (fun r346 u H locs hw hP hS => ?_)
  obtain ⟨k347, k348⟩ := hw
  refine lv_icmp_ge (tgt := 37) hx hb dX11_chest_9 (by decide) (fun c349 => ?_) (fun c349 => ?_)
  · skip
    refine lv_iload_n hx hb dX11_chest_37 rfl (lv_at hl 1 rfl) ?_
    have hP9 := hP.sub (ws' := [(h, oX11 th aw ai ab ac hi re aP ta po en be de fa a5 sp av an ak ne aW aC ag aT aN aF), (aw, .inl (cI, 2179, .inl fw))]) [0, 1] rfl
    have hD9 := hD.sub (ws' := [(h, oX11 th aw ai ab ac hi re aP ta po en be de fa a5 sp av an ak ne aW aC ag aT aN aF), (aw, .inl (cI, 2179, .inl fw))]) [0, 1] (by decide) rfl
    exact W.iret (v := y344) hx hb hr (fun t ht hW => ⟨⟨y344, (), rfl, hy344, by rw [ht]; exact hP9, va_K.moved hW.alike hK, hD9⟩, hS.F ht⟩) hS.2.2 dX11_chest_38
  · skip
    have k350 : Rg y343 0 11 := rg_l1 (nleI c349) hy343 k348 (by decide)
    have k351 : Rg r346 1 12 := rg_l2 (nleI c349) hy343 k348 (by decide)
    refine lv_iload_n hx hb dX11_chest_12 rfl (lv_at hl 1 rfl) ?_
    refine lv_aload_n hx hb dX11_chest_13 rfl (lv_at hl 2 rfl) ?_
    refine lv_iload_n hx hb dX11_chest_14 rfl (lv_at hl 0 rfl) ?_
    refine lv_iconst (v := 5) hx hb dX11_chest_15 (by decide) ?_
    refine kpurei (wc := [(h, oX11 th aw ai ab ac hi re aP ta po en be de fa a5 sp av an ak ne aW aC ag aT aN aF), (aw, .inl (cI, 2179, .inl fw))]) hP hD hS hA [0, 1] rfl (by decide) (fun hPc hDc hFc => va_runV (As := [.int y343, .int 5]) (rest := [.int y344]) ⟨hx, hb, hml, hown, hts⟩ (r_of5 l D cI cJ cB cC h th aw ai ab ac hi re aP ta po en be de fa a5 sp av an ak ne aW aC ag aT aN aF fw y343 H.size k350 H_fw_W) (cwV 2 hts gX11_chest_X11_of rfl rfl rfl ⟨rfl, hdX11_of⟩ ⟨Nat.le_of_ble_eq_true rfl, Nat.le_of_ble_eq_true rfl⟩) ⟨kBlind, va_recv hK hPc (ci := 10) (q0 := 0) rfl rfl, fun U hU hW => ⟨rfl, by rw [hU], hN.warm hW, hE.pass hS hFc hW hU, by rw [hU]; exact hPc, va_K.moved hW.alike hK, hDc⟩⟩ rfl rfl hl.1 rfl (lv_room (Nat.le_of_ble_eq_true rfl)) dX11_chest_16 ⟨Nat.le_of_ble_eq_true rfl, Nat.le_of_ble_eq_true rfl⟩) (fun r352 u H locs hw hP hS => ?_)
    obtain ⟨k353, k354⟩ := hw
    refine k_join (hd := 29) (cells2 := 0) (slots2 := 0) (fun (u : Int32 × Int32) => match u with | (z362, z363) => [.int z362, .int z363]) (fun (u : Int32 × Int32) (H : Heap) (locs : List Loc) (ls : Array Slot) => match u with | (z362, z363) => Rg z362 0 2048 ∧ Rg z363 0 4095 ∧ va_P D vwCl [(h, oX11 th aw ai ab ac hi re aP ta po en be de fa a5 sp av an ak ne aW aC ag aT aN aF), (aw, .inl (cI, 2179, .inl fw))] H ∧ va_D A [(h, oX11 th aw ai ab ac hi re aP ta po en be de fa a5 sp av an ak ne aW aC ag aT aN aF), (aw, .inl (cI, 2179, .inl fw))] ∧ va_S A s.heap H locs ∧ lv_has ls 3 [(2, .int y343), (1, .int y344), (0, .ref h)]) (fun u H locs ls hI => ?_) (fun hJ29 => ?_)
    · skip
      clear hP hD hS hl
      obtain ⟨z362, z363⟩ := u
      obtain ⟨hz362, hz363, hP, hD, hS, hl⟩ := hI
      have hP : va_P D vwCl [(h, oX11 th aw ai ab ac hi re aP ta po en be de fa a5 sp av an ak ne aW aC ag aT aN aF), (aw, .inl (cI, 2179, .inl fw))] H := hP
      have hD : va_D A [(h, oX11 th aw ai ab ac hi re aP ta po en be de fa a5 sp av an ak ne aW aC ag aT aN aF), (aw, .inl (cI, 2179, .inl fw))] := hD
      have hl : lv_has ls 3 [(2, .int y343), (1, .int y344), (0, .ref h)] := hl
      show W _ _ _ _ _ _ _ _ _ _ _ _ _ _ _ (F0 m 29 ls [.int z362, .int z363])
      refine lv_ior hx hb dX11_chest_29 ?_
      refine lv_topi (fun x364 ex364 => ?_)
      have k365 : Rg x364 0 4095 := rg_or 12 ex364 hz363 hz362 (by decide)
      clear ex364
      refine lv_istore_n (lv' := [(1, .int x364), (2, .int y343), (0, .ref h)]) hx hb dX11_chest_30 rfl hl (by decide) rfl (fun ls hl => ?_)
      obtain ⟨x366, ex366⟩ : ∃ y : Int32, y = y343 + 1 := ⟨_, rfl⟩
      refine lv_iinc (v := x366) (lv' := [(2, .int x366), (1, .int x364), (0, .ref h)]) hx hb dX11_chest_31 hl (k := 1) rfl (by rw [ex366]; rfl) (by decide) rfl (fun ls hl => ?_)
      have k367 : Rg x366 1 12 := rg_add ex366 k350 (rg_lit (n := 1) (by decide)) (by decide)
      refine lv_goto (tgt := 4) hx hb dX11_chest_34 (by decide) ?_
      exact ih345 (x366, x364) _ _ _ (by show (12 - (x366).toInt).toNat < (12 - (y343).toInt).toNat; exact mu_up ex366 k350 k367 (by decide)) ⟨(rg_w k367 (by decide)), k365, hP.sub (ws' := [(h, oX11 th aw ai ab ac hi re aP ta po en be de fa a5 sp av an ak ne aW aC ag aT aN aF), (aw, .inl (cI, 2179, .inl fw))]) [0, 1] rfl, hD.sub (ws' := [(h, oX11 th aw ai ab ac hi re aP ta po en be de fa a5 sp av an ak ne aW aC ag aT aN aF), (aw, .inl (cI, 2179, .inl fw))]) [0, 1] (by decide) rfl, hS, lv_sub (l' := [(2, .int x366), (1, .int x364), (0, .ref h)]) hl [0, 1, 2] rfl⟩
    refine lv_if_ge (tgt := 28) hx hb dX11_chest_19 (by decide) (fun c368 => ?_) (fun c368 => ?_)
    · skip
      have k369 : Rg r352 0 9 := rg_e2 (leI c368) (rg_lit (n := 0) (by decide)) k354 (by decide)
      refine lv_iconst (v := 0) hx hb dX11_chest_28 (by decide) ?_
      exact hJ29 ((0 : Int32), y344) _ _ _ ⟨(rg_w (rg_lit (n := 0) (by decide)) (by decide)), hy344, hP.sub (ws' := [(h, oX11 th aw ai ab ac hi re aP ta po en be de fa a5 sp av an ak ne aW aC ag aT aN aF), (aw, .inl (cI, 2179, .inl fw))]) [0, 1] rfl, hD.sub (ws' := [(h, oX11 th aw ai ab ac hi re aP ta po en be de fa a5 sp av an ak ne aW aC ag aT aN aF), (aw, .inl (cI, 2179, .inl fw))]) [0, 1] (by decide) rfl, hS, lv_sub (l' := [(2, .int y343), (1, .int y344), (0, .ref h)]) hl [0, 1, 2] rfl⟩
    · skip
      have k370 : Rg r352 (-1) (-1) := rg_l1 (nleI c368) k354 (rg_lit (n := 0) (by decide)) (by decide)
      refine lv_iconst (v := 1) hx hb dX11_chest_22 (by decide) ?_
      refine lv_iload_n hx hb dX11_chest_23 rfl (lv_at hl 0 rfl) ?_
      refine lv_ishl hx hb dX11_chest_24 ?_
      refine lv_topi (fun x371 ex371 => ?_)
      have k372 : Rg x371 1 2048 := rg_shl1 11 ex371 k350 (by decide)
      clear ex371
      refine lv_goto (tgt := 29) hx hb dX11_chest_25 (by decide) ?_
      exact hJ29 (x371, y344) _ _ _ ⟨(rg_w k372 (by decide)), hy344, hP.sub (ws' := [(h, oX11 th aw ai ab ac hi re aP ta po en be de fa a5 sp av an ak ne aW aC ag aT aN aF), (aw, .inl (cI, 2179, .inl fw))]) [0, 1] rfl, hD.sub (ws' := [(h, oX11 th aw ai ab ac hi re aP ta po en be de fa a5 sp av an ak ne aW aC ag aT aN aF), (aw, .inl (cI, 2179, .inl fw))]) [0, 1] (by decide) rfl, hS, lv_sub (l' := [(2, .int y343), (1, .int y344), (0, .ref h)]) hl [0, 1, 2] rfl⟩

def kwX11_linesFor : List Cond := .code yX11_linesFor cX11_linesFor 9 (some .int) :: kG
theorem hdX11_linesFor : yX11_linesFor.cls ≠ "java/lang/invoke/MethodHandle" ∧ yX11_linesFor.cls ≠ "java/lang/invoke/VarHandle" ∧ (parseMethodDescriptor yX11_linesFor.desc).map (fun d => d.parameters.length) = some 2 := by decide +kernel
theorem gX11_linesFor_X11_has : GoodIn kG (va_wsS RX11 310 yX11_has kwX11_has) := gK w37_11 (gK w37_12 (gK w0_5 (gK w37_13 gGG)))
theorem gX11_linesFor_X11_of : GoodIn kG (wsV RX11 156 RX11 yX11_of kwX11_of) := gK w21_9 (gK w21_10 (gK w21_11 (gK w0_5 (gK w21_12 gGG))))
theorem gX11_linesFor_X11_shirts : GoodIn kG (wsV RX11 79 RX11 yX11_shirts kwX11_shirts) := gK w20_17 (gK w20_18 (gK w20_19 (gK w0_5 (gK w20_20 gGG))))
theorem dX11_linesFor_0 : decode cX11_linesFor 0 = .ok (.aload_n 0, 1) := by decide +kernel
theorem dX11_linesFor_1 : decode cX11_linesFor 1 = .ok (.getfield 61, 3) := by decide +kernel
theorem dX11_linesFor_4 : decode cX11_linesFor 4 = .ok (.iconst 0, 1) := by decide +kernel
theorem dX11_linesFor_5 : decode cX11_linesFor 5 = .ok (.iconst 0, 1) := by decide +kernel
theorem dX11_linesFor_6 : decode cX11_linesFor 6 = .ok (.iastore, 1) := by decide +kernel
theorem dX11_linesFor_7 : decode cX11_linesFor 7 = .ok (.iconst 1, 1) := by decide +kernel
theorem dX11_linesFor_8 : decode cX11_linesFor 8 = .ok (.istore_n 3, 1) := by decide +kernel
theorem dX11_linesFor_9 : decode cX11_linesFor 9 = .ok (.iload_n 3, 1) := by decide +kernel
theorem dX11_linesFor_10 : decode cX11_linesFor 10 = .ok (.iload_n 1, 1) := by decide +kernel
theorem dX11_linesFor_11 : decode cX11_linesFor 11 = .ok (.if_icmp .gt 154, 3) := by decide +kernel
theorem dX11_linesFor_14 : decode cX11_linesFor 14 = .ok (.iload_n 3, 1) := by decide +kernel
theorem dX11_linesFor_15 : decode cX11_linesFor 15 = .ok (.iload_n 1, 1) := by decide +kernel
theorem dX11_linesFor_16 : decode cX11_linesFor 16 = .ok (.iconst (-1), 1) := by decide +kernel
theorem dX11_linesFor_17 : decode cX11_linesFor 17 = .ok (.ixor, 1) := by decide +kernel
theorem dX11_linesFor_18 : decode cX11_linesFor 18 = .ok (.iand, 1) := by decide +kernel
theorem dX11_linesFor_19 : decode cX11_linesFor 19 = .ok (.ifCond .eq 6, 3) := by decide +kernel
theorem dX11_linesFor_22 : decode cX11_linesFor 22 = .ok (.goto 137, 3) := by decide +kernel
theorem dX11_linesFor_25 : decode cX11_linesFor 25 = .ok (.aload_n 0, 1) := by decide +kernel
theorem dX11_linesFor_26 : decode cX11_linesFor 26 = .ok (.getfield 61, 3) := by decide +kernel
theorem dX11_linesFor_29 : decode cX11_linesFor 29 = .ok (.iload_n 3, 1) := by decide +kernel
theorem dX11_linesFor_30 : decode cX11_linesFor 30 = .ok (.ldc_w 334, 3) := by decide +kernel
theorem dX11_linesFor_33 : decode cX11_linesFor 33 = .ok (.iastore, 1) := by decide +kernel
theorem dX11_linesFor_34 : decode cX11_linesFor 34 = .ok (.iconst 0, 1) := by decide +kernel
theorem dX11_linesFor_35 : decode cX11_linesFor 35 = .ok (.istore 4, 2) := by decide +kernel
theorem dX11_linesFor_37 : decode cX11_linesFor 37 = .ok (.iload 4, 2) := by decide +kernel
theorem dX11_linesFor_39 : decode cX11_linesFor 39 = .ok (.aload_n 0, 1) := by decide +kernel
theorem dX11_linesFor_40 : decode cX11_linesFor 40 = .ok (.invokevirtual 79, 3) := by decide +kernel
theorem dX11_linesFor_43 : decode cX11_linesFor 43 = .ok (.if_icmp .ge 116, 3) := by decide +kernel
theorem dX11_linesFor_46 : decode cX11_linesFor 46 = .ok (.iload_n 3, 1) := by decide +kernel
theorem dX11_linesFor_47 : decode cX11_linesFor 47 = .ok (.iload 4, 2) := by decide +kernel
theorem dX11_linesFor_49 : decode cX11_linesFor 49 = .ok (.invokestatic 310, 3) := by decide +kernel
theorem dX11_linesFor_52 : decode cX11_linesFor 52 = .ok (.ifCond .ne 6, 3) := by decide +kernel
theorem dX11_linesFor_55 : decode cX11_linesFor 55 = .ok (.goto 98, 3) := by decide +kernel
theorem dX11_linesFor_58 : decode cX11_linesFor 58 = .ok (.aload_n 0, 1) := by decide +kernel
theorem dX11_linesFor_59 : decode cX11_linesFor 59 = .ok (.getfield 61, 3) := by decide +kernel
theorem dX11_linesFor_62 : decode cX11_linesFor 62 = .ok (.iload_n 3, 1) := by decide +kernel
theorem dX11_linesFor_63 : decode cX11_linesFor 63 = .ok (.iconst 1, 1) := by decide +kernel
theorem dX11_linesFor_64 : decode cX11_linesFor 64 = .ok (.iload 4, 2) := by decide +kernel
theorem dX11_linesFor_66 : decode cX11_linesFor 66 = .ok (.ishl, 1) := by decide +kernel
theorem dX11_linesFor_67 : decode cX11_linesFor 67 = .ok (.iconst (-1), 1) := by decide +kernel
theorem dX11_linesFor_68 : decode cX11_linesFor 68 = .ok (.ixor, 1) := by decide +kernel
theorem dX11_linesFor_69 : decode cX11_linesFor 69 = .ok (.iand, 1) := by decide +kernel
theorem dX11_linesFor_70 : decode cX11_linesFor 70 = .ok (.iaload, 1) := by decide +kernel
theorem dX11_linesFor_71 : decode cX11_linesFor 71 = .ok (.istore 5, 2) := by decide +kernel
theorem dX11_linesFor_73 : decode cX11_linesFor 73 = .ok (.iconst 1, 1) := by decide +kernel
theorem dX11_linesFor_74 : decode cX11_linesFor 74 = .ok (.aload_n 0, 1) := by decide +kernel
theorem dX11_linesFor_75 : decode cX11_linesFor 75 = .ok (.iload 4, 2) := by decide +kernel
theorem dX11_linesFor_77 : decode cX11_linesFor 77 = .ok (.iconst 3, 1) := by decide +kernel
theorem dX11_linesFor_78 : decode cX11_linesFor 78 = .ok (.invokevirtual 156, 3) := by decide +kernel
theorem dX11_linesFor_81 : decode cX11_linesFor 81 = .ok (.iadd, 1) := by decide +kernel
theorem dX11_linesFor_82 : decode cX11_linesFor 82 = .ok (.istore 6, 2) := by decide +kernel
theorem dX11_linesFor_84 : decode cX11_linesFor 84 = .ok (.iload 5, 2) := by decide +kernel
theorem dX11_linesFor_86 : decode cX11_linesFor 86 = .ok (.bipush 100, 2) := by decide +kernel
theorem dX11_linesFor_88 : decode cX11_linesFor 88 = .ok (.irem, 1) := by decide +kernel
theorem dX11_linesFor_89 : decode cX11_linesFor 89 = .ok (.istore 7, 2) := by decide +kernel
theorem dX11_linesFor_91 : decode cX11_linesFor 91 = .ok (.iload 5, 2) := by decide +kernel
theorem dX11_linesFor_93 : decode cX11_linesFor 93 = .ok (.ifCond .le 16, 3) := by decide +kernel
theorem dX11_linesFor_96 : decode cX11_linesFor 96 = .ok (.iload 7, 2) := by decide +kernel
theorem dX11_linesFor_98 : decode cX11_linesFor 98 = .ok (.iload 6, 2) := by decide +kernel
theorem dX11_linesFor_100 : decode cX11_linesFor 100 = .ok (.iadd, 1) := by decide +kernel
theorem dX11_linesFor_101 : decode cX11_linesFor 101 = .ok (.iload_n 2, 1) := by decide +kernel
theorem dX11_linesFor_102 : decode cX11_linesFor 102 = .ok (.if_icmp .gt 7, 3) := by decide +kernel
theorem dX11_linesFor_105 : decode cX11_linesFor 105 = .ok (.iconst 1, 1) := by decide +kernel
theorem dX11_linesFor_106 : decode cX11_linesFor 106 = .ok (.goto 4, 3) := by decide +kernel
theorem dX11_linesFor_109 : decode cX11_linesFor 109 = .ok (.iconst 0, 1) := by decide +kernel
theorem dX11_linesFor_110 : decode cX11_linesFor 110 = .ok (.istore 8, 2) := by decide +kernel
theorem dX11_linesFor_112 : decode cX11_linesFor 112 = .ok (.aload_n 0, 1) := by decide +kernel
theorem dX11_linesFor_113 : decode cX11_linesFor 113 = .ok (.getfield 61, 3) := by decide +kernel
theorem dX11_linesFor_116 : decode cX11_linesFor 116 = .ok (.iload_n 3, 1) := by decide +kernel
theorem dX11_linesFor_117 : decode cX11_linesFor 117 = .ok (.aload_n 0, 1) := by decide +kernel
theorem dX11_linesFor_118 : decode cX11_linesFor 118 = .ok (.getfield 61, 3) := by decide +kernel
theorem dX11_linesFor_121 : decode cX11_linesFor 121 = .ok (.iload_n 3, 1) := by decide +kernel
theorem dX11_linesFor_122 : decode cX11_linesFor 122 = .ok (.iaload, 1) := by decide +kernel
theorem dX11_linesFor_123 : decode cX11_linesFor 123 = .ok (.iload 8, 2) := by decide +kernel
theorem dX11_linesFor_125 : decode cX11_linesFor 125 = .ok (.ifCond .eq 11, 3) := by decide +kernel
theorem dX11_linesFor_128 : decode cX11_linesFor 128 = .ok (.iload 5, 2) := by decide +kernel
theorem dX11_linesFor_130 : decode cX11_linesFor 130 = .ok (.iload 6, 2) := by decide +kernel
theorem dX11_linesFor_132 : decode cX11_linesFor 132 = .ok (.iadd, 1) := by decide +kernel
theorem dX11_linesFor_133 : decode cX11_linesFor 133 = .ok (.goto 16, 3) := by decide +kernel
theorem dX11_linesFor_136 : decode cX11_linesFor 136 = .ok (.bipush 100, 2) := by decide +kernel
theorem dX11_linesFor_138 : decode cX11_linesFor 138 = .ok (.iload 5, 2) := by decide +kernel
theorem dX11_linesFor_140 : decode cX11_linesFor 140 = .ok (.bipush 100, 2) := by decide +kernel
theorem dX11_linesFor_142 : decode cX11_linesFor 142 = .ok (.idiv, 1) := by decide +kernel
theorem dX11_linesFor_143 : decode cX11_linesFor 143 = .ok (.iconst 1, 1) := by decide +kernel
theorem dX11_linesFor_144 : decode cX11_linesFor 144 = .ok (.iadd, 1) := by decide +kernel
theorem dX11_linesFor_145 : decode cX11_linesFor 145 = .ok (.imul, 1) := by decide +kernel
theorem dX11_linesFor_146 : decode cX11_linesFor 146 = .ok (.iload 6, 2) := by decide +kernel
theorem dX11_linesFor_148 : decode cX11_linesFor 148 = .ok (.iadd, 1) := by decide +kernel
theorem dX11_linesFor_149 : decode cX11_linesFor 149 = .ok (.invokestatic 292, 3) := by decide +kernel
theorem dX11_linesFor_152 : decode cX11_linesFor 152 = .ok (.iastore, 1) := by decide +kernel
theorem dX11_linesFor_153 : decode cX11_linesFor 153 = .ok (.iinc 4 1, 3) := by decide +kernel
theorem dX11_linesFor_156 : decode cX11_linesFor 156 = .ok (.goto (-119), 3) := by decide +kernel
theorem dX11_linesFor_159 : decode cX11_linesFor 159 = .ok (.iinc 3 1, 3) := by decide +kernel
theorem dX11_linesFor_162 : decode cX11_linesFor 162 = .ok (.goto (-153), 3) := by decide +kernel
theorem dX11_linesFor_165 : decode cX11_linesFor 165 = .ok (.aload_n 0, 1) := by decide +kernel
theorem dX11_linesFor_166 : decode cX11_linesFor 166 = .ok (.getfield 61, 3) := by decide +kernel
theorem dX11_linesFor_169 : decode cX11_linesFor 169 = .ok (.iload_n 1, 1) := by decide +kernel
theorem dX11_linesFor_170 : decode cX11_linesFor 170 = .ok (.iaload, 1) := by decide +kernel
theorem dX11_linesFor_171 : decode cX11_linesFor 171 = .ok (.bipush 100, 2) := by decide +kernel
theorem dX11_linesFor_173 : decode cX11_linesFor 173 = .ok (.idiv, 1) := by decide +kernel
theorem dX11_linesFor_174 : decode cX11_linesFor 174 = .ok (.ireturn, 1) := by decide +kernel
set_option maxHeartbeats 4000000 in
set_option maxRecDepth 100000 in
/-- reference: linesFor -/
theorem r_linesFor (l : Launch) (D : va_G) (cI cJ cB cC : ClassId) (h : Nat) (th : Int32) (aw : Nat) (ai : Nat) (ab : Nat) (ac : Nat) (hi : Int32) (re : Int32) (aP : Nat) (ta : Int32) (po : Int32) (en : Int32) (be : Int32) (de : Int32) (fa : Int32) (a5 : Nat) (sp : Int32) (av : Nat) (an : Nat) (ak : Nat) (ne : Int32) (aW : Nat) (aC : Nat) (ag : Nat) (aT : Nat) (aN : Nat) (aF : Nat) (fw : Nat → Int32) (fF : Nat → Int32) (mm : Int32) (b : Int32) (sz : Nat) (H_mm : Rg mm 0 4095) (H_fw_W : wW fw) : Met l yX11_linesFor kwX11_linesFor ({ frames := 1, cells := 0, slots := 0, locals := 22 } : Room) (kPre D (kT cI cJ cB cC) sz [(h, oX11 th aw ai ab ac hi re aP ta po en be de fa a5 sp av an ak ne aW aC ag aT aN aF), (aw, .inl (cI, 2179, .inl fw)), (aF, .inl (cI, 4096, .inl fF))] [.ref h, .int mm, .int b]) (va_Qi (fun (r : Int32) (f0_ : (Nat → Int32)) => True) (fun (f0_ : (Nat → Int32)) (t : State) => kB D (kT cI cJ cB cC) (va_A [(h, oX11 th aw ai ab ac hi re aP ta po en be de fa a5 sp av an ak ne aW aC ag aT aN aF), (aw, .inl (cI, 2179, .inl fw)), (aF, .inl (cI, 4096, .inl fF))] sz) [(h, oX11 th aw ai ab ac hi re aP ta po en be de fa a5 sp av an ak ne aW aC ag aT aN aF), (aw, .inl (cI, 2179, .inl fw)), (aF, .inl (cI, 4096, .inl f0_))] t) (va_A [(h, oX11 th aw ai ab ac hi re aP ta po en be de fa a5 sp av an ak ne aW aC ag aT aN aF), (aw, .inl (cI, 2179, .inl fw)), (aF, .inl (cI, 4096, .inl fF))] sz)) 0 0 (va_A [(h, oX11 th aw ai ab ac hi re aP ta po en be de fa a5 sp av an ak ne aW aC ag aT aN aF), (aw, .inl (cI, 2179, .inl fw)), (aF, .inl (cI, 4096, .inl fF))] sz) := by
  refine Met.ofW (cc := cX11_linesFor) (maxL := 9) (ret := (some .int)) (by decide) rfl ?_
  intro p e s m args below meth c s₁ B hml hv
  obtain ⟨rfl, hsz, hN, hE, hP, hK, hD0⟩ := hv
  have hx := B.exec
  have hb := B.bytes
  have hr := B.returns
  have hts := fun (w : Cond) (h : w ∈ kG) => atoms_spec (ws := kwX11_linesFor) B.pre w (List.mem_cons_of_mem _ h)
  have hown : s.vm.findClass RX11 = some m.cls := findClass_of_methodNamed B.named
  subst hsz
  have hD := hD0.self (sz := s.heap.size)
  generalize hAe : va_A [(h, oX11 th aw ai ab ac hi re aP ta po en be de fa a5 sp av an ak ne aW aC ag aT aN aF), (aw, .inl (cI, 2179, .inl fw)), (aF, .inl (cI, 4096, .inl fF))] s.heap.size = A at hD hE ⊢
  have hA : ∀ q : Nat, s.heap.size ≤ q → A q := fun q h => by rw [← hAe]; exact Or.inr h
  have hl := lv_entry ([.ref h, .int mm, .int b]) (n := 9) (Nat.le_of_ble_eq_true rfl)
  rw [lg_entry_eq]
  generalize (lg_sl ([.ref h, .int mm, .int b]) ++ List.replicate (9 - (lg_sl ([.ref h, .int mm, .int b])).length) Slot.unset).toArray = ls at hl ⊢
  have hl : lv_has ls 9 [(0, .ref h), (1, .int mm), (2, .int b)] := hl
  obtain ⟨H, hH0⟩ : ∃ H, H = s.heap := ⟨_, rfl⟩
  have hS : va_S A s.heap H [] := by rw [hH0]; exact va_S.rf
  have hP : va_P D vwCl [(h, oX11 th aw ai ab ac hi re aP ta po en be de fa a5 sp av an ak ne aW aC ag aT aN aF), (aw, .inl (cI, 2179, .inl fw)), (aF, .inl (cI, 4096, .inl fF))] H := by rw [hH0]; exact hP
  refine kHeap hH0 ?_
  clear hH0
  refine lv_aload_n hx hb dX11_linesFor_0 rfl (lv_at hl 0 rfl) ?_
  refine va_get (D := D) (ci := 10) (v := .ref aF) (C := RX11) (T := TX11) (N := 26) hx hb hts iG_X11 hown hK hP 0 rfl rfl 25 (by decide) (hts _ w5_19) (fun _ h9 => h9) rfl dX11_linesFor_1 ?_
  refine lv_iconst (v := 0) hx hb dX11_linesFor_4 (by decide) ?_
  refine lv_iconst (v := 0) hx hb dX11_linesFor_5 (by decide) ?_
  refine va_iast hx hb hK hP hD hS 2 0 rfl rfl (rg_in (rg_lit (n := 0) (by decide)) (by decide)) dX11_linesFor_6 (fun H locs hP hD hS => ?_)
  have hP : va_P D vwCl [(h, oX11 th aw ai ab ac hi re aP ta po en be de fa a5 sp av an ak ne aW aC ag aT aN aF), (aw, .inl (cI, 2179, .inl fw)), (aF, .inl (cI, 4096, .inl (upd fF (0 : Int32).toNatClampNeg 0)))] H := hP
  have hD : va_D A [(h, oX11 th aw ai ab ac hi re aP ta po en be de fa a5 sp av an ak ne aW aC ag aT aN aF), (aw, .inl (cI, 2179, .inl fw)), (aF, .inl (cI, 4096, .inl (upd fF (0 : Int32).toNatClampNeg 0)))] := hD
  generalize hge : (upd fF (0 : Int32).toNatClampNeg 0) = g1 at hP hD
  clear hge
  refine lv_iconst (v := 1) hx hb dX11_linesFor_7 (by decide) ?_
  refine lv_istore_n (lv' := [(3, .int 1), (0, .ref h), (1, .int mm), (2, .int b)]) hx hb dX11_linesFor_8 rfl hl (by decide) rfl (fun ls hl => ?_)
  refine k_loop (hd := 9) (fun (u : Int32 × (Nat → Int32)) => match u with | (y12636, g12637) => (4096 - (y12636).toInt).toNat) (fun (u : Int32 × (Nat → Int32)) (H : Heap) (locs : List Loc) (ls : Array Slot) => match u with | (y12636, g12637) => Rg y12636 1 4096 ∧ va_P D vwCl [(h, oX11 th aw ai ab ac hi re aP ta po en be de fa a5 sp av an ak ne aW aC ag aT aN aF), (aw, .inl (cI, 2179, .inl fw)), (aF, .inl (cI, 4096, .inl g12637))] H ∧ va_D A [(h, oX11 th aw ai ab ac hi re aP ta po en be de fa a5 sp av an ak ne aW aC ag aT aN aF), (aw, .inl (cI, 2179, .inl fw)), (aF, .inl (cI, 4096, .inl g12637))] ∧ va_S A s.heap H locs ∧ lv_has ls 9 [(3, .int y12636), (0, .ref h), (1, .int mm), (2, .int b)]) ((1 : Int32), g1) ⟨(rg_w (rg_lit (n := 1) (by decide)) (by decide)), hP.sub (ws' := [(h, oX11 th aw ai ab ac hi re aP ta po en be de fa a5 sp av an ak ne aW aC ag aT aN aF), (aw, .inl (cI, 2179, .inl fw)), (aF, .inl (cI, 4096, .inl g1))]) [0, 1, 2] rfl, hD.sub (ws' := [(h, oX11 th aw ai ab ac hi re aP ta po en be de fa a5 sp av an ak ne aW aC ag aT aN aF), (aw, .inl (cI, 2179, .inl fw)), (aF, .inl (cI, 4096, .inl g1))]) [0, 1, 2] (by decide) rfl, hS, lv_sub (l' := [(3, .int 1), (0, .ref h), (1, .int mm), (2, .int b)]) hl [0, 1, 2, 3] rfl⟩ (fun u H locs ls hI ih12638 => ?_)
  clear hP hD hS hl
  obtain ⟨y12636, g12637⟩ := u
  obtain ⟨hy12636, hP, hD, hS, hl⟩ := hI
  have hP : va_P D vwCl [(h, oX11 th aw ai ab ac hi re aP ta po en be de fa a5 sp av an ak ne aW aC ag aT aN aF), (aw, .inl (cI, 2179, .inl fw)), (aF, .inl (cI, 4096, .inl g12637))] H := hP
  have hD : va_D A [(h, oX11 th aw ai ab ac hi re aP ta po en be de fa a5 sp av an ak ne aW aC ag aT aN aF), (aw, .inl (cI, 2179, .inl fw)), (aF, .inl (cI, 4096, .inl g12637))] := hD
  have hl : lv_has ls 9 [(3, .int y12636), (0, .ref h), (1, .int mm), (2, .int b)] := hl
  refine lv_iload_n hx hb dX11_linesFor_9 rfl (lv_at hl 0 rfl) ?_
  refine lv_iload_n hx hb dX11_linesFor_10 rfl (lv_at hl 2 rfl) ?_
  refine lv_icmp_gt (tgt := 165) hx hb dX11_linesFor_11 (by decide) (fun c12639 => ?_) (fun c12639 => ?_)
  · skip
    refine lv_aload_n hx hb dX11_linesFor_165 rfl (lv_at hl 1 rfl) ?_
    refine va_get (D := D) (ci := 10) (v := .ref aF) (C := RX11) (T := TX11) (N := 26) hx hb hts iG_X11 hown hK hP 0 rfl rfl 25 (by decide) (hts _ w5_19) (fun _ h9 => h9) rfl dX11_linesFor_166 ?_
    refine lv_iload_n hx hb dX11_linesFor_169 rfl (lv_at hl 2 rfl) ?_
    refine va_iald hx hb hK hP 2 0 rfl rfl (rg_in H_mm (by decide)) dX11_linesFor_170 ?_
    refine lv_topi (fun x12640 ex12640 => ?_)
    clear ex12640
    refine lv_bipush (v := 100) hx hb dX11_linesFor_171 (by decide) ?_
    refine lv_idiv hx hb dX11_linesFor_173 (by decide) ?_
    refine lv_topi (fun x12641 ex12641 => ?_)
    have hP9 := hP.sub (ws' := [(h, oX11 th aw ai ab ac hi re aP ta po en be de fa a5 sp av an ak ne aW aC ag aT aN aF), (aw, .inl (cI, 2179, .inl fw)), (aF, .inl (cI, 4096, .inl g12637))]) [0, 1, 2] rfl
    have hD9 := hD.sub (ws' := [(h, oX11 th aw ai ab ac hi re aP ta po en be de fa a5 sp av an ak ne aW aC ag aT aN aF), (aw, .inl (cI, 2179, .inl fw)), (aF, .inl (cI, 4096, .inl g12637))]) [0, 1, 2] (by decide) rfl
    exact W.iret (v := x12641) hx hb hr (fun t ht hW => ⟨⟨x12641, (g12637), rfl, trivial, by rw [ht]; exact hP9, va_K.moved hW.alike hK, hD9⟩, hS.F ht⟩) hS.2.2 dX11_linesFor_174
  · skip
    have k12642 : Rg y12636 1 4095 := rg_e1 (nltI c12639) hy12636 H_mm (by decide)
    have k12643 : Rg mm 1 4095 := rg_e2 (nltI c12639) hy12636 H_mm (by decide)
    refine lv_iload_n hx hb dX11_linesFor_14 rfl (lv_at hl 0 rfl) ?_
    refine lv_iload_n hx hb dX11_linesFor_15 rfl (lv_at hl 2 rfl) ?_
    refine lv_iconst (v := (-1)) hx hb dX11_linesFor_16 (by decide) ?_
    refine lv_ixor hx hb dX11_linesFor_17 ?_
    refine lv_topi (fun x12644 ex12644 => ?_)
    clear ex12644
    refine lv_iand hx hb dX11_linesFor_18 ?_
    refine lv_topi (fun x12645 ex12645 => ?_)
    have k12646 : Rg x12645 0 4095 := rg_andl ex12645 k12642 (by decide)
    clear ex12645
    refine k_join (hd := 159) (cells2 := 0) (slots2 := 0) (fun (g13427 : (Nat → Int32)) => []) (fun (g13427 : (Nat → Int32)) (H : Heap) (locs : List Loc) (ls : Array Slot) => va_P D vwCl [(h, oX11 th aw ai ab ac hi re aP ta po en be de fa a5 sp av an ak ne aW aC ag aT aN aF), (aw, .inl (cI, 2179, .inl fw)), (aF, .inl (cI, 4096, .inl g13427))] H ∧ va_D A [(h, oX11 th aw ai ab ac hi re aP ta po en be de fa a5 sp av an ak ne aW aC ag aT aN aF), (aw, .inl (cI, 2179, .inl fw)), (aF, .inl (cI, 4096, .inl g13427))] ∧ va_S A s.heap H locs ∧ lv_has ls 9 [(3, .int y12636), (0, .ref h), (1, .int mm), (2, .int b)]) (fun u H locs ls hI => ?_) (fun hJ159 => ?_)
    · skip
      clear hP hD hS hl
      obtain ⟨g13427, rfl⟩ : ∃ z, z = u := ⟨_, rfl⟩
      obtain ⟨hP, hD, hS, hl⟩ := hI
      have hP : va_P D vwCl [(h, oX11 th aw ai ab ac hi re aP ta po en be de fa a5 sp av an ak ne aW aC ag aT aN aF), (aw, .inl (cI, 2179, .inl fw)), (aF, .inl (cI, 4096, .inl g13427))] H := hP
      have hD : va_D A [(h, oX11 th aw ai ab ac hi re aP ta po en be de fa a5 sp av an ak ne aW aC ag aT aN aF), (aw, .inl (cI, 2179, .inl fw)), (aF, .inl (cI, 4096, .inl g13427))] := hD
      have hl : lv_has ls 9 [(3, .int y12636), (0, .ref h), (1, .int mm), (2, .int b)] := hl
      obtain ⟨x13428, ex13428⟩ : ∃ y : Int32, y = y12636 + 1 := ⟨_, rfl⟩
      refine lv_iinc (v := x13428) (lv' := [(3, .int x13428), (0, .ref h), (1, .int mm), (2, .int b)]) hx hb dX11_linesFor_159 hl (k := 0) rfl (by rw [ex13428]; rfl) (by decide) rfl (fun ls hl => ?_)
      have k13429 : Rg x13428 2 4096 := rg_add ex13428 k12642 (rg_lit (n := 1) (by decide)) (by decide)
      refine lv_goto (tgt := 9) hx hb dX11_linesFor_162 (by decide) ?_
      exact ih12638 (x13428, g13427) _ _ _ (by show (4096 - (x13428).toInt).toNat < (4096 - (y12636).toInt).toNat; exact mu_up ex13428 k12642 k13429 (by decide)) ⟨(rg_w k13429 (by decide)), hP.sub (ws' := [(h, oX11 th aw ai ab ac hi re aP ta po en be de fa a5 sp av an ak ne aW aC ag aT aN aF), (aw, .inl (cI, 2179, .inl fw)), (aF, .inl (cI, 4096, .inl g13427))]) [0, 1, 2] rfl, hD.sub (ws' := [(h, oX11 th aw ai ab ac hi re aP ta po en be de fa a5 sp av an ak ne aW aC ag aT aN aF), (aw, .inl (cI, 2179, .inl fw)), (aF, .inl (cI, 4096, .inl g13427))]) [0, 1, 2] (by decide) rfl, hS, lv_sub (l' := [(3, .int x13428), (0, .ref h), (1, .int mm), (2, .int b)]) hl [0, 1, 2, 3] rfl⟩
    refine lv_if_eq (tgt := 25) hx hb dX11_linesFor_19 (by decide) (fun c13430 => ?_) (fun c13430 => ?_)
    · skip
      have k13431 : Rg x12645 0 0 := rg_q1 (eqI c13430) k12646 (rg_lit (n := 0) (by decide)) (by decide)
      refine lv_aload_n hx hb dX11_linesFor_25 rfl (lv_at hl 1 rfl) ?_
      refine va_get (D := D) (ci := 10) (v := .ref aF) (C := RX11) (T := TX11) (N := 26) hx hb hts iG_X11 hown hK hP 0 rfl rfl 25 (by decide) (hts _ w5_19) (fun _ h9 => h9) rfl dX11_linesFor_26 ?_
      refine lv_iload_n hx hb dX11_linesFor_29 rfl (lv_at hl 0 rfl) ?_
      refine lv_ldcw (v := 1000000) hx hb hown (hts _ w42_16) dX11_linesFor_30 ?_
      refine va_iast hx hb hK hP hD hS 2 0 rfl rfl (rg_in k12642 (by decide)) dX11_linesFor_33 (fun H locs hP hD hS => ?_)
      have hP : va_P D vwCl [(h, oX11 th aw ai ab ac hi re aP ta po en be de fa a5 sp av an ak ne aW aC ag aT aN aF), (aw, .inl (cI, 2179, .inl fw)), (aF, .inl (cI, 4096, .inl (upd g12637 y12636.toNatClampNeg 1000000)))] H := hP
      have hD : va_D A [(h, oX11 th aw ai ab ac hi re aP ta po en be de fa a5 sp av an ak ne aW aC ag aT aN aF), (aw, .inl (cI, 2179, .inl fw)), (aF, .inl (cI, 4096, .inl (upd g12637 y12636.toNatClampNeg 1000000)))] := hD
      generalize hge : (upd g12637 y12636.toNatClampNeg 1000000) = g13432 at hP hD
      clear hge
      refine lv_iconst (v := 0) hx hb dX11_linesFor_34 (by decide) ?_
      refine lv_istore (lv' := [(4, .int 0), (3, .int y12636), (0, .ref h), (1, .int mm), (2, .int b)]) hx hb dX11_linesFor_35 hl (by decide) rfl (fun ls hl => ?_)
      refine k_loop (hd := 37) (fun (u : Int32 × (Nat → Int32)) => match u with | (y14162, g14163) => (12 - (y14162).toInt).toNat) (fun (u : Int32 × (Nat → Int32)) (H : Heap) (locs : List Loc) (ls : Array Slot) => match u with | (y14162, g14163) => Rg y14162 0 12 ∧ va_P D vwCl [(h, oX11 th aw ai ab ac hi re aP ta po en be de fa a5 sp av an ak ne aW aC ag aT aN aF), (aw, .inl (cI, 2179, .inl fw)), (aF, .inl (cI, 4096, .inl g14163))] H ∧ va_D A [(h, oX11 th aw ai ab ac hi re aP ta po en be de fa a5 sp av an ak ne aW aC ag aT aN aF), (aw, .inl (cI, 2179, .inl fw)), (aF, .inl (cI, 4096, .inl g14163))] ∧ va_S A s.heap H locs ∧ lv_has ls 9 [(4, .int y14162), (3, .int y12636), (0, .ref h), (1, .int mm), (2, .int b)]) ((0 : Int32), g13432) ⟨(rg_w (rg_lit (n := 0) (by decide)) (by decide)), hP.sub (ws' := [(h, oX11 th aw ai ab ac hi re aP ta po en be de fa a5 sp av an ak ne aW aC ag aT aN aF), (aw, .inl (cI, 2179, .inl fw)), (aF, .inl (cI, 4096, .inl g13432))]) [0, 1, 2] rfl, hD.sub (ws' := [(h, oX11 th aw ai ab ac hi re aP ta po en be de fa a5 sp av an ak ne aW aC ag aT aN aF), (aw, .inl (cI, 2179, .inl fw)), (aF, .inl (cI, 4096, .inl g13432))]) [0, 1, 2] (by decide) rfl, hS, lv_sub (l' := [(4, .int 0), (3, .int y12636), (0, .ref h), (1, .int mm), (2, .int b)]) hl [0, 1, 2, 3, 4] rfl⟩ (fun u H locs ls hI ih14164 => ?_)
      clear hP hD hS hl
      obtain ⟨y14162, g14163⟩ := u
      obtain ⟨hy14162, hP, hD, hS, hl⟩ := hI
      have hP : va_P D vwCl [(h, oX11 th aw ai ab ac hi re aP ta po en be de fa a5 sp av an ak ne aW aC ag aT aN aF), (aw, .inl (cI, 2179, .inl fw)), (aF, .inl (cI, 4096, .inl g14163))] H := hP
      have hD : va_D A [(h, oX11 th aw ai ab ac hi re aP ta po en be de fa a5 sp av an ak ne aW aC ag aT aN aF), (aw, .inl (cI, 2179, .inl fw)), (aF, .inl (cI, 4096, .inl g14163))] := hD
      have hl : lv_has ls 9 [(4, .int y14162), (3, .int y12636), (0, .ref h), (1, .int mm), (2, .int b)] := hl
      refine lv_iload hx hb dX11_linesFor_37 (lv_at hl 0 rfl) ?_
      refine lv_aload_n hx hb dX11_linesFor_39 rfl (lv_at hl 2 rfl) ?_
      refine kpurei (wc := [(h, oX11 th aw ai ab ac hi re aP ta po en be de fa a5 sp av an ak ne aW aC ag aT aN aF), (aw, .inl (cI, 2179, .inl fw))]) hP hD hS hA [0, 1] rfl (by decide) (fun hPc hDc hFc => va_runV (As := []) (rest := [.int y14162]) ⟨hx, hb, hml, hown, hts⟩ (r_shirts l D cI cJ cB cC h th aw ai ab ac hi re aP ta po en be de fa a5 sp av an ak ne aW aC ag aT aN aF fw H.size H_fw_W) (cwV 0 hts gX11_linesFor_X11_shirts rfl rfl rfl ⟨rfl, hdX11_shirts⟩ ⟨Nat.le_of_ble_eq_true rfl, Nat.le_of_ble_eq_true rfl⟩) ⟨kBlind, va_recv hK hPc (ci := 10) (q0 := 0) rfl rfl, fun U hU hW => ⟨rfl, by rw [hU], hN.warm hW, hE.pass hS hFc hW hU, by rw [hU]; exact hPc, va_K.moved hW.alike hK, hDc⟩⟩ rfl rfl hl.1 rfl (lv_room (Nat.le_of_ble_eq_true rfl)) dX11_linesFor_40 ⟨Nat.le_of_ble_eq_true rfl, Nat.le_of_ble_eq_true rfl⟩) (fun r14165 u H locs hw hP hS => ?_)
      obtain ⟨k14166, k14167⟩ := hw
      refine lv_icmp_ge (tgt := 159) hx hb dX11_linesFor_43 (by decide) (fun c14168 => ?_) (fun c14168 => ?_)
      · skip
        exact hJ159 (g14163) _ _ _ ⟨hP.sub (ws' := [(h, oX11 th aw ai ab ac hi re aP ta po en be de fa a5 sp av an ak ne aW aC ag aT aN aF), (aw, .inl (cI, 2179, .inl fw)), (aF, .inl (cI, 4096, .inl g14163))]) [0, 1, 2] rfl, hD.sub (ws' := [(h, oX11 th aw ai ab ac hi re aP ta po en be de fa a5 sp av an ak ne aW aC ag aT aN aF), (aw, .inl (cI, 2179, .inl fw)), (aF, .inl (cI, 4096, .inl g14163))]) [0, 1, 2] (by decide) rfl, hS, lv_sub (l' := [(3, .int y12636), (0, .ref h), (1, .int mm), (2, .int b)]) hl [1, 2, 3, 4] rfl⟩
      · skip
        have k14169 : Rg y14162 0 11 := rg_l1 (nleI c14168) hy14162 k14167 (by decide)
        have k14170 : Rg r14165 1 12 := rg_l2 (nleI c14168) hy14162 k14167 (by decide)
        refine lv_iload_n hx hb dX11_linesFor_46 rfl (lv_at hl 1 rfl) ?_
        refine lv_iload hx hb dX11_linesFor_47 (lv_at hl 0 rfl) ?_
        refine kpurei (wc := []) hP hD hS hA [] rfl (by decide) (fun hPc hDc hFc => va_runS (As := [.int y12636, .int y14162]) (rest := []) ⟨hx, hb, hml, hown, hts⟩ (r_has l D cI cJ cB cC y12636 y14162 H.size) (va_cwS 2 hts gX11_linesFor_X11_has rfl rfl rfl hdX11_has ⟨Nat.le_of_ble_eq_true rfl, Nat.le_of_ble_eq_true rfl⟩) ⟨kBlind, fun U hU hW => ⟨rfl, by rw [hU], hN.warm hW, hE.pass hS hFc hW hU, by rw [hU]; exact hPc, va_K.moved hW.alike hK, hDc⟩⟩ rfl rfl hl.1 rfl (lv_room (Nat.le_of_ble_eq_true rfl)) dX11_linesFor_49 ⟨Nat.le_of_ble_eq_true rfl, Nat.le_of_ble_eq_true rfl⟩) (fun r14171 u H locs hw hP hS => ?_)
        have k14172 := hw
        refine k_join (hd := 153) (cells2 := 0) (slots2 := 0) (fun (g14207 : (Nat → Int32)) => []) (fun (g14207 : (Nat → Int32)) (H : Heap) (locs : List Loc) (ls : Array Slot) => va_P D vwCl [(h, oX11 th aw ai ab ac hi re aP ta po en be de fa a5 sp av an ak ne aW aC ag aT aN aF), (aw, .inl (cI, 2179, .inl fw)), (aF, .inl (cI, 4096, .inl g14207))] H ∧ va_D A [(h, oX11 th aw ai ab ac hi re aP ta po en be de fa a5 sp av an ak ne aW aC ag aT aN aF), (aw, .inl (cI, 2179, .inl fw)), (aF, .inl (cI, 4096, .inl g14207))] ∧ va_S A s.heap H locs ∧ lv_has ls 9 [(4, .int y14162), (3, .int y12636), (0, .ref h), (1, .int mm), (2, .int b)]) (fun u H locs ls hI => ?_) (fun hJ153 => ?_)
        · skip
          clear hP hD hS hl
          obtain ⟨g14207, rfl⟩ : ∃ z, z = u := ⟨_, rfl⟩
          obtain ⟨hP, hD, hS, hl⟩ := hI
          have hP : va_P D vwCl [(h, oX11 th aw ai ab ac hi re aP ta po en be de fa a5 sp av an ak ne aW aC ag aT aN aF), (aw, .inl (cI, 2179, .inl fw)), (aF, .inl (cI, 4096, .inl g14207))] H := hP
          have hD : va_D A [(h, oX11 th aw ai ab ac hi re aP ta po en be de fa a5 sp av an ak ne aW aC ag aT aN aF), (aw, .inl (cI, 2179, .inl fw)), (aF, .inl (cI, 4096, .inl g14207))] := hD
          have hl : lv_has ls 9 [(4, .int y14162), (3, .int y12636), (0, .ref h), (1, .int mm), (2, .int b)] := hl
          obtain ⟨x14208, ex14208⟩ : ∃ y : Int32, y = y14162 + 1 := ⟨_, rfl⟩
          refine lv_iinc (v := x14208) (lv' := [(4, .int x14208), (3, .int y12636), (0, .ref h), (1, .int mm), (2, .int b)]) hx hb dX11_linesFor_153 hl (k := 0) rfl (by rw [ex14208]; rfl) (by decide) rfl (fun ls hl => ?_)
          have k14209 : Rg x14208 1 12 := rg_add ex14208 k14169 (rg_lit (n := 1) (by decide)) (by decide)
          refine lv_goto (tgt := 37) hx hb dX11_linesFor_156 (by decide) ?_
          exact ih14164 (x14208, g14207) _ _ _ (by show (12 - (x14208).toInt).toNat < (12 - (y14162).toInt).toNat; exact mu_up ex14208 k14169 k14209 (by decide)) ⟨(rg_w k14209 (by decide)), hP.sub (ws' := [(h, oX11 th aw ai ab ac hi re aP ta po en be de fa a5 sp av an ak ne aW aC ag aT aN aF), (aw, .inl (cI, 2179, .inl fw)), (aF, .inl (cI, 4096, .inl g14207))]) [0, 1, 2] rfl, hD.sub (ws' := [(h, oX11 th aw ai ab ac hi re aP ta po en be de fa a5 sp av an ak ne aW aC ag aT aN aF), (aw, .inl (cI, 2179, .inl fw)), (aF, .inl (cI, 4096, .inl g14207))]) [0, 1, 2] (by decide) rfl, hS, lv_sub (l' := [(4, .int x14208), (3, .int y12636), (0, .ref h), (1, .int mm), (2, .int b)]) hl [0, 1, 2, 3, 4] rfl⟩
        refine lv_if_ne (tgt := 58) hx hb dX11_linesFor_52 (by decide) (fun c14210 => ?_) (fun c14210 => ?_)
        · skip
          have k14211 : Rg r14171 1 1 := rg_n1 (neI c14210) k14172 (rg_lit (n := 0) (by decide)) (by decide)
          refine lv_aload_n hx hb dX11_linesFor_58 rfl (lv_at hl 2 rfl) ?_
          refine va_get (D := D) (ci := 10) (v := .ref aF) (C := RX11) (T := TX11) (N := 26) hx hb hts iG_X11 hown hK hP 0 rfl rfl 25 (by decide) (hts _ w5_19) (fun _ h9 => h9) rfl dX11_linesFor_59 ?_
          refine lv_iload_n hx hb dX11_linesFor_62 rfl (lv_at hl 1 rfl) ?_
          refine lv_iconst (v := 1) hx hb dX11_linesFor_63 (by decide) ?_
          refine lv_iload hx hb dX11_linesFor_64 (lv_at hl 0 rfl) ?_
          refine lv_ishl hx hb dX11_linesFor_66 ?_
          refine lv_topi (fun x14212 ex14212 => ?_)
          have k14213 : Rg x14212 1 2048 := rg_shl1 11 ex14212 k14169 (by decide)
          clear ex14212
          refine lv_iconst (v := (-1)) hx hb dX11_linesFor_67 (by decide) ?_
          refine lv_ixor hx hb dX11_linesFor_68 ?_
          refine lv_topi (fun x14214 ex14214 => ?_)
          clear ex14214
          refine lv_iand hx hb dX11_linesFor_69 ?_
          refine lv_topi (fun x14215 ex14215 => ?_)
          have k14216 : Rg x14215 0 4095 := rg_andl ex14215 k12642 (by decide)
          clear ex14215
          refine va_iald hx hb hK hP 2 0 rfl rfl (rg_in k14216 (by decide)) dX11_linesFor_70 ?_
          refine lv_topi (fun x14217 ex14217 => ?_)
          clear ex14217
          refine lv_istore (lv' := [(5, .int x14217), (4, .int y14162), (3, .int y12636), (0, .ref h), (1, .int mm), (2, .int b)]) hx hb dX11_linesFor_71 hl (by decide) rfl (fun ls hl => ?_)
          refine lv_iconst (v := 1) hx hb dX11_linesFor_73 (by decide) ?_
          refine lv_aload_n hx hb dX11_linesFor_74 rfl (lv_at hl 3 rfl) ?_
          refine lv_iload hx hb dX11_linesFor_75 (lv_at hl 1 rfl) ?_
          refine lv_iconst (v := 3) hx hb dX11_linesFor_77 (by decide) ?_
          refine kpurei (wc := [(h, oX11 th aw ai ab ac hi re aP ta po en be de fa a5 sp av an ak ne aW aC ag aT aN aF), (aw, .inl (cI, 2179, .inl fw))]) hP hD hS hA [0, 1] rfl (by decide) (fun hPc hDc hFc => va_runV (As := [.int y14162, .int 3]) (rest := [.int 1]) ⟨hx, hb, hml, hown, hts⟩ (r_of3 l D cI cJ cB cC h th aw ai ab ac hi re aP ta po en be de fa a5 sp av an ak ne aW aC ag aT aN aF fw y14162 H.size k14169 H_fw_W) (cwV 2 hts gX11_linesFor_X11_of rfl rfl rfl ⟨rfl, hdX11_of⟩ ⟨Nat.le_of_ble_eq_true rfl, Nat.le_of_ble_eq_true rfl⟩) ⟨kBlind, va_recv hK hPc (ci := 10) (q0 := 0) rfl rfl, fun U hU hW => ⟨rfl, by rw [hU], hN.warm hW, hE.pass hS hFc hW hU, by rw [hU]; exact hPc, va_K.moved hW.alike hK, hDc⟩⟩ rfl rfl hl.1 rfl (lv_room (Nat.le_of_ble_eq_true rfl)) dX11_linesFor_78 ⟨Nat.le_of_ble_eq_true rfl, Nat.le_of_ble_eq_true rfl⟩) (fun r14218 u H locs hw hP hS => ?_)
          have k14219 := hw
          refine lv_iadd hx hb dX11_linesFor_81 ?_
          refine lv_topi (fun x14220 ex14220 => ?_)
          clear ex14220
          refine lv_istore (lv' := [(6, .int x14220), (5, .int x14217), (4, .int y14162), (3, .int y12636), (0, .ref h), (1, .int mm), (2, .int b)]) hx hb dX11_linesFor_82 hl (by decide) rfl (fun ls hl => ?_)
          refine lv_iload hx hb dX11_linesFor_84 (lv_at hl 1 rfl) ?_
          refine lv_bipush (v := 100) hx hb dX11_linesFor_86 (by decide) ?_
          refine lv_irem hx hb dX11_linesFor_88 (by decide) ?_
          refine lv_topi (fun x14221 ex14221 => ?_)
          refine lv_istore (lv' := [(7, .int x14221), (6, .int x14220), (5, .int x14217), (4, .int y14162), (3, .int y12636), (0, .ref h), (1, .int mm), (2, .int b)]) hx hb dX11_linesFor_89 hl (by decide) rfl (fun ls hl => ?_)
          refine lv_iload hx hb dX11_linesFor_91 (lv_at hl 2 rfl) ?_
          refine k_join (hd := 109) (cells2 := 0) (slots2 := 0) (fun (_ : Unit) => []) (fun (_ : Unit) (H : Heap) (locs : List Loc) (ls : Array Slot) => va_P D vwCl [(h, oX11 th aw ai ab ac hi re aP ta po en be de fa a5 sp av an ak ne aW aC ag aT aN aF), (aw, .inl (cI, 2179, .inl fw)), (aF, .inl (cI, 4096, .inl g14163))] H ∧ va_D A [(h, oX11 th aw ai ab ac hi re aP ta po en be de fa a5 sp av an ak ne aW aC ag aT aN aF), (aw, .inl (cI, 2179, .inl fw)), (aF, .inl (cI, 4096, .inl g14163))] ∧ va_S A s.heap H locs ∧ lv_has ls 9 [(7, .int x14221), (6, .int x14220), (5, .int x14217), (4, .int y14162), (3, .int y12636), (0, .ref h), (1, .int mm), (2, .int b)]) (fun u H locs ls hI => ?_) (fun hJ109 => ?_)
          · skip
            clear hP hD hS hl
            obtain ⟨hP, hD, hS, hl⟩ := hI
            have hP : va_P D vwCl [(h, oX11 th aw ai ab ac hi re aP ta po en be de fa a5 sp av an ak ne aW aC ag aT aN aF), (aw, .inl (cI, 2179, .inl fw)), (aF, .inl (cI, 4096, .inl g14163))] H := hP
            have hD : va_D A [(h, oX11 th aw ai ab ac hi re aP ta po en be de fa a5 sp av an ak ne aW aC ag aT aN aF), (aw, .inl (cI, 2179, .inl fw)), (aF, .inl (cI, 4096, .inl g14163))] := hD
            have hl : lv_has ls 9 [(7, .int x14221), (6, .int x14220), (5, .int x14217), (4, .int y14162), (3, .int y12636), (0, .ref h), (1, .int mm), (2, .int b)] := hl
            refine lv_iconst (v := 0) hx hb dX11_linesFor_109 (by decide) ?_
            refine lv_istore (lv' := [(8, .int 0), (7, .int x14221), (6, .int x14220), (5, .int x14217), (4, .int y14162), (3, .int y12636), (0, .ref h), (1, .int mm), (2, .int b)]) hx hb dX11_linesFor_110 hl (by decide) rfl (fun ls hl => ?_)
            refine lv_aload_n hx hb dX11_linesFor_112 rfl (lv_at hl 6 rfl) ?_
            refine va_get (D := D) (ci := 10) (v := .ref aF) (C := RX11) (T := TX11) (N := 26) hx hb hts iG_X11 hown hK hP 0 rfl rfl 25 (by decide) (hts _ w5_19) (fun _ h9 => h9) rfl dX11_linesFor_113 ?_
            refine lv_iload_n hx hb dX11_linesFor_116 rfl (lv_at hl 5 rfl) ?_
            refine lv_aload_n hx hb dX11_linesFor_117 rfl (lv_at hl 6 rfl) ?_
            refine va_get (D := D) (ci := 10) (v := .ref aF) (C := RX11) (T := TX11) (N := 26) hx hb hts iG_X11 hown hK hP 0 rfl rfl 25 (by decide) (hts _ w5_19) (fun _ h9 => h9) rfl dX11_linesFor_118 ?_
            refine lv_iload_n hx hb dX11_linesFor_121 rfl (lv_at hl 5 rfl) ?_
            refine va_iald hx hb hK hP 2 0 rfl rfl (rg_in k12642 (by decide)) dX11_linesFor_122 ?_
            refine lv_topi (fun x14229 ex14229 => ?_)
            clear ex14229
            refine lv_iload hx hb dX11_linesFor_123 (lv_at hl 0 rfl) ?_
            refine lv_if_eq (tgt := 136) hx hb dX11_linesFor_125 (by decide) (fun _ => ?_) (fun c14235 => absurd (by decide) c14235)
            refine lv_bipush (v := 100) hx hb dX11_linesFor_136 (by decide) ?_
            refine lv_iload hx hb dX11_linesFor_138 (lv_at hl 3 rfl) ?_
            refine lv_bipush (v := 100) hx hb dX11_linesFor_140 (by decide) ?_
            refine lv_idiv hx hb dX11_linesFor_142 (by decide) ?_
            refine lv_topi (fun x14236 ex14236 => ?_)
            refine lv_iconst (v := 1) hx hb dX11_linesFor_143 (by decide) ?_
            refine lv_iadd hx hb dX11_linesFor_144 ?_
            refine lv_topi (fun x14237 ex14237 => ?_)
            refine lv_imul hx hb dX11_linesFor_145 ?_
            refine lv_topi (fun x14238 ex14238 => ?_)
            clear ex14238
            refine lv_iload hx hb dX11_linesFor_146 (lv_at hl 2 rfl) ?_
            refine lv_iadd hx hb dX11_linesFor_148 ?_
            refine lv_topi (fun x14239 ex14239 => ?_)
            clear ex14239
            refine va_mmin hx hb (by rw [hml]; exact hl.1.symm) hown (hts _ w34_13) (hts _ w24_21) (hts _ w8_7) (hts _ w24_22) (Nat.le_of_ble_eq_true rfl) (Nat.le_of_ble_eq_true rfl) (Nat.le_of_ble_eq_true rfl) (Nat.le_of_ble_eq_true rfl) dX11_linesFor_149 ?_
            refine lv_topi (fun x14240 ex14240 => ?_)
            refine va_iast hx hb hK hP hD hS 2 0 rfl rfl (rg_in k12642 (by decide)) dX11_linesFor_152 (fun H locs hP hD hS => ?_)
            have hP : va_P D vwCl [(h, oX11 th aw ai ab ac hi re aP ta po en be de fa a5 sp av an ak ne aW aC ag aT aN aF), (aw, .inl (cI, 2179, .inl fw)), (aF, .inl (cI, 4096, .inl (upd g14163 y12636.toNatClampNeg x14240)))] H := hP
            have hD : va_D A [(h, oX11 th aw ai ab ac hi re aP ta po en be de fa a5 sp av an ak ne aW aC ag aT aN aF), (aw, .inl (cI, 2179, .inl fw)), (aF, .inl (cI, 4096, .inl (upd g14163 y12636.toNatClampNeg x14240)))] := hD
            generalize hge : (upd g14163 y12636.toNatClampNeg x14240) = g14241 at hP hD
            clear hge
            exact hJ153 (g14241) _ _ _ ⟨hP.sub (ws' := [(h, oX11 th aw ai ab ac hi re aP ta po en be de fa a5 sp av an ak ne aW aC ag aT aN aF), (aw, .inl (cI, 2179, .inl fw)), (aF, .inl (cI, 4096, .inl g14241))]) [0, 1, 2] rfl, hD.sub (ws' := [(h, oX11 th aw ai ab ac hi re aP ta po en be de fa a5 sp av an ak ne aW aC ag aT aN aF), (aw, .inl (cI, 2179, .inl fw)), (aF, .inl (cI, 4096, .inl g14241))]) [0, 1, 2] (by decide) rfl, hS, lv_sub (l' := [(4, .int y14162), (3, .int y12636), (0, .ref h), (1, .int mm), (2, .int b)]) hl [4, 5, 6, 7, 8] rfl⟩
          refine lv_if_le (tgt := 109) hx hb dX11_linesFor_93 (by decide) (fun c14242 => ?_) (fun c14242 => ?_)
          · skip
            have k14243 : Rg x14217 (-2147483648) 0 := rg_e1 (leI c14242) (rg_any x14217) (rg_lit (n := 0) (by decide)) (by decide)
            exact hJ109 () _ _ _ ⟨hP.sub (ws' := [(h, oX11 th aw ai ab ac hi re aP ta po en be de fa a5 sp av an ak ne aW aC ag aT aN aF), (aw, .inl (cI, 2179, .inl fw)), (aF, .inl (cI, 4096, .inl g14163))]) [0, 1, 2] rfl, hD.sub (ws' := [(h, oX11 th aw ai ab ac hi re aP ta po en be de fa a5 sp av an ak ne aW aC ag aT aN aF), (aw, .inl (cI, 2179, .inl fw)), (aF, .inl (cI, 4096, .inl g14163))]) [0, 1, 2] (by decide) rfl, hS, lv_sub (l' := [(7, .int x14221), (6, .int x14220), (5, .int x14217), (4, .int y14162), (3, .int y12636), (0, .ref h), (1, .int mm), (2, .int b)]) hl [0, 1, 2, 3, 4, 5, 6, 7] rfl⟩
          · skip
            have k14244 : Rg x14217 1 2147483647 := rg_l2 (nleI c14242) (rg_lit (n := 0) (by decide)) (rg_any x14217) (by decide)
            refine lv_iload hx hb dX11_linesFor_96 (lv_at hl 0 rfl) ?_
            refine lv_iload hx hb dX11_linesFor_98 (lv_at hl 1 rfl) ?_
            refine lv_iadd hx hb dX11_linesFor_100 ?_
            refine lv_topi (fun x14245 ex14245 => ?_)
            clear ex14245
            refine lv_iload_n hx hb dX11_linesFor_101 rfl (lv_at hl 7 rfl) ?_
            refine lv_icmp_gt (tgt := 109) hx hb dX11_linesFor_102 (by decide) (fun c14246 => ?_) (fun c14246 => ?_)
            · skip
              have k14247 : Rg x14245 (-2147483647) 2147483647 := rg_l2 (ltI c14246) (rg_any b) (rg_any x14245) (by decide)
              have k14248 : Rg b (-2147483648) 2147483646 := rg_l1 (ltI c14246) (rg_any b) (rg_any x14245) (by decide)
              exact hJ109 () _ _ _ ⟨hP.sub (ws' := [(h, oX11 th aw ai ab ac hi re aP ta po en be de fa a5 sp av an ak ne aW aC ag aT aN aF), (aw, .inl (cI, 2179, .inl fw)), (aF, .inl (cI, 4096, .inl g14163))]) [0, 1, 2] rfl, hD.sub (ws' := [(h, oX11 th aw ai ab ac hi re aP ta po en be de fa a5 sp av an ak ne aW aC ag aT aN aF), (aw, .inl (cI, 2179, .inl fw)), (aF, .inl (cI, 4096, .inl g14163))]) [0, 1, 2] (by decide) rfl, hS, lv_sub (l' := [(7, .int x14221), (6, .int x14220), (5, .int x14217), (4, .int y14162), (3, .int y12636), (0, .ref h), (1, .int mm), (2, .int b)]) hl [0, 1, 2, 3, 4, 5, 6, 7] rfl⟩
            · skip
              refine lv_iconst (v := 1) hx hb dX11_linesFor_105 (by decide) ?_
              refine lv_goto (tgt := 110) hx hb dX11_linesFor_106 (by decide) ?_
              refine lv_istore (lv' := [(8, .int 1), (7, .int x14221), (6, .int x14220), (5, .int x14217), (4, .int y14162), (3, .int y12636), (0, .ref h), (1, .int mm), (2, .int b)]) hx hb dX11_linesFor_110 hl (by decide) rfl (fun ls hl => ?_)
              refine lv_aload_n hx hb dX11_linesFor_112 rfl (lv_at hl 6 rfl) ?_
              refine va_get (D := D) (ci := 10) (v := .ref aF) (C := RX11) (T := TX11) (N := 26) hx hb hts iG_X11 hown hK hP 0 rfl rfl 25 (by decide) (hts _ w5_19) (fun _ h9 => h9) rfl dX11_linesFor_113 ?_
              refine lv_iload_n hx hb dX11_linesFor_116 rfl (lv_at hl 5 rfl) ?_
              refine lv_aload_n hx hb dX11_linesFor_117 rfl (lv_at hl 6 rfl) ?_
              refine va_get (D := D) (ci := 10) (v := .ref aF) (C := RX11) (T := TX11) (N := 26) hx hb hts iG_X11 hown hK hP 0 rfl rfl 25 (by decide) (hts _ w5_19) (fun _ h9 => h9) rfl dX11_linesFor_118 ?_
              refine lv_iload_n hx hb dX11_linesFor_121 rfl (lv_at hl 5 rfl) ?_
              refine va_iald hx hb hK hP 2 0 rfl rfl (rg_in k12642 (by decide)) dX11_linesFor_122 ?_
              refine lv_topi (fun x14249 ex14249 => ?_)
              clear ex14249
              refine lv_iload hx hb dX11_linesFor_123 (lv_at hl 0 rfl) ?_
              refine lv_if_eq (tgt := 136) hx hb dX11_linesFor_125 (by decide) (fun c14252 => absurd c14252 (by decide)) (fun _ => ?_)
              refine lv_iload hx hb dX11_linesFor_128 (lv_at hl 3 rfl) ?_
              refine lv_iload hx hb dX11_linesFor_130 (lv_at hl 2 rfl) ?_
              refine lv_iadd hx hb dX11_linesFor_132 ?_
              refine lv_topi (fun x14253 ex14253 => ?_)
              clear ex14253
              refine lv_goto (tgt := 149) hx hb dX11_linesFor_133 (by decide) ?_
              refine va_mmin hx hb (by rw [hml]; exact hl.1.symm) hown (hts _ w34_13) (hts _ w24_21) (hts _ w8_7) (hts _ w24_22) (Nat.le_of_ble_eq_true rfl) (Nat.le_of_ble_eq_true rfl) (Nat.le_of_ble_eq_true rfl) (Nat.le_of_ble_eq_true rfl) dX11_linesFor_149 ?_
              refine lv_topi (fun x14254 ex14254 => ?_)
              refine va_iast hx hb hK hP hD hS 2 0 rfl rfl (rg_in k12642 (by decide)) dX11_linesFor_152 (fun H locs hP hD hS => ?_)
              have hP : va_P D vwCl [(h, oX11 th aw ai ab ac hi re aP ta po en be de fa a5 sp av an ak ne aW aC ag aT aN aF), (aw, .inl (cI, 2179, .inl fw)), (aF, .inl (cI, 4096, .inl (upd g14163 y12636.toNatClampNeg x14254)))] H := hP
              have hD : va_D A [(h, oX11 th aw ai ab ac hi re aP ta po en be de fa a5 sp av an ak ne aW aC ag aT aN aF), (aw, .inl (cI, 2179, .inl fw)), (aF, .inl (cI, 4096, .inl (upd g14163 y12636.toNatClampNeg x14254)))] := hD
              generalize hge : (upd g14163 y12636.toNatClampNeg x14254) = g14255 at hP hD
              clear hge
              exact hJ153 (g14255) _ _ _ ⟨hP.sub (ws' := [(h, oX11 th aw ai ab ac hi re aP ta po en be de fa a5 sp av an ak ne aW aC ag aT aN aF), (aw, .inl (cI, 2179, .inl fw)), (aF, .inl (cI, 4096, .inl g14255))]) [0, 1, 2] rfl, hD.sub (ws' := [(h, oX11 th aw ai ab ac hi re aP ta po en be de fa a5 sp av an ak ne aW aC ag aT aN aF), (aw, .inl (cI, 2179, .inl fw)), (aF, .inl (cI, 4096, .inl g14255))]) [0, 1, 2] (by decide) rfl, hS, lv_sub (l' := [(4, .int y14162), (3, .int y12636), (0, .ref h), (1, .int mm), (2, .int b)]) hl [4, 5, 6, 7, 8] rfl⟩
        · skip
          have k14256 : Rg r14171 0 0 := rg_q1 (eqI c14210) k14172 (rg_lit (n := 0) (by decide)) (by decide)
          refine lv_goto (tgt := 153) hx hb dX11_linesFor_55 (by decide) ?_
          exact hJ153 (g14163) _ _ _ ⟨hP.sub (ws' := [(h, oX11 th aw ai ab ac hi re aP ta po en be de fa a5 sp av an ak ne aW aC ag aT aN aF), (aw, .inl (cI, 2179, .inl fw)), (aF, .inl (cI, 4096, .inl g14163))]) [0, 1, 2] rfl, hD.sub (ws' := [(h, oX11 th aw ai ab ac hi re aP ta po en be de fa a5 sp av an ak ne aW aC ag aT aN aF), (aw, .inl (cI, 2179, .inl fw)), (aF, .inl (cI, 4096, .inl g14163))]) [0, 1, 2] (by decide) rfl, hS, lv_sub (l' := [(4, .int y14162), (3, .int y12636), (0, .ref h), (1, .int mm), (2, .int b)]) hl [0, 1, 2, 3, 4] rfl⟩
    · skip
      have k14257 : Rg x12645 1 4095 := rg_n1 (neI c13430) k12646 (rg_lit (n := 0) (by decide)) (by decide)
      refine lv_goto (tgt := 159) hx hb dX11_linesFor_22 (by decide) ?_
      exact hJ159 (g12637) _ _ _ ⟨hP.sub (ws' := [(h, oX11 th aw ai ab ac hi re aP ta po en be de fa a5 sp av an ak ne aW aC ag aT aN aF), (aw, .inl (cI, 2179, .inl fw)), (aF, .inl (cI, 4096, .inl g12637))]) [0, 1, 2] rfl, hD.sub (ws' := [(h, oX11 th aw ai ab ac hi re aP ta po en be de fa a5 sp av an ak ne aW aC ag aT aN aF), (aw, .inl (cI, 2179, .inl fw)), (aF, .inl (cI, 4096, .inl g12637))]) [0, 1, 2] (by decide) rfl, hS, lv_sub (l' := [(3, .int y12636), (0, .ref h), (1, .int mm), (2, .int b)]) hl [0, 1, 2, 3] rfl⟩

def kwX11_lines : List Cond := .code yX11_lines cX11_lines 5 (some .int) :: kG
theorem hdX11_lines : yX11_lines.cls ≠ "java/lang/invoke/MethodHandle" ∧ yX11_lines.cls ≠ "java/lang/invoke/VarHandle" ∧ (parseMethodDescriptor yX11_lines.desc).map (fun d => d.parameters.length) = some 1 := by decide +kernel
theorem gX11_lines_X11_in : GoodIn kG (va_wsS RX11 75 yX11_in kwX11_in) := gK w27_8 (gK w27_9 (gK w0_5 (gK w27_10 gGG)))
theorem gX11_lines_X11_linesFor : GoodIn kG (wsV RX11 353 RX11 yX11_linesFor kwX11_linesFor) := gK w50_3 (gK w50_4 (gK w50_5 (gK w0_5 (gK w50_6 gGG))))
theorem gX11_lines_X11_of : GoodIn kG (wsV RX11 156 RX11 yX11_of kwX11_of) := gK w21_9 (gK w21_10 (gK w21_11 (gK w0_5 (gK w21_12 gGG))))
theorem gX11_lines_X11_shirts : GoodIn kG (wsV RX11 79 RX11 yX11_shirts kwX11_shirts) := gK w20_17 (gK w20_18 (gK w20_19 (gK w0_5 (gK w20_20 gGG))))
theorem gX11_lines_X11_throwsIf : GoodIn kG (wsV RX11 258 RX11 yX11_throwsIf kwX11_throwsIf) := gK w23_6 (gK w23_7 (gK w23_8 (gK w0_5 (gK w23_9 gGG))))
theorem dX11_lines_0 : decode cX11_lines 0 = .ok (.aload_n 0, 1) := by decide +kernel
theorem dX11_lines_1 : decode cX11_lines 1 = .ok (.iconst 0, 1) := by decide +kernel
theorem dX11_lines_2 : decode cX11_lines 2 = .ok (.putfield 3, 3) := by decide +kernel
theorem dX11_lines_5 : decode cX11_lines 5 = .ok (.aload_n 0, 1) := by decide +kernel
theorem dX11_lines_6 : decode cX11_lines 6 = .ok (.iload_n 1, 1) := by decide +kernel
theorem dX11_lines_7 : decode cX11_lines 7 = .ok (.iconst 1, 1) := by decide +kernel
theorem dX11_lines_8 : decode cX11_lines 8 = .ok (.bipush 99, 2) := by decide +kernel
theorem dX11_lines_10 : decode cX11_lines 10 = .ok (.invokestatic 75, 3) := by decide +kernel
theorem dX11_lines_13 : decode cX11_lines 13 = .ok (.ifCond .ne 7, 3) := by decide +kernel
theorem dX11_lines_16 : decode cX11_lines 16 = .ok (.iconst 1, 1) := by decide +kernel
theorem dX11_lines_17 : decode cX11_lines 17 = .ok (.goto 4, 3) := by decide +kernel
theorem dX11_lines_20 : decode cX11_lines 20 = .ok (.iconst 0, 1) := by decide +kernel
theorem dX11_lines_21 : decode cX11_lines 21 = .ok (.iconst 1, 1) := by decide +kernel
theorem dX11_lines_22 : decode cX11_lines 22 = .ok (.invokevirtual 258, 3) := by decide +kernel
theorem dX11_lines_25 : decode cX11_lines 25 = .ok (.ifCond .eq 5, 3) := by decide +kernel
theorem dX11_lines_28 : decode cX11_lines 28 = .ok (.iconst 0, 1) := by decide +kernel
theorem dX11_lines_29 : decode cX11_lines 29 = .ok (.ireturn, 1) := by decide +kernel
theorem dX11_lines_30 : decode cX11_lines 30 = .ok (.iconst 0, 1) := by decide +kernel
theorem dX11_lines_31 : decode cX11_lines 31 = .ok (.istore_n 2, 1) := by decide +kernel
theorem dX11_lines_32 : decode cX11_lines 32 = .ok (.iconst 0, 1) := by decide +kernel
theorem dX11_lines_33 : decode cX11_lines 33 = .ok (.istore_n 3, 1) := by decide +kernel
theorem dX11_lines_34 : decode cX11_lines 34 = .ok (.iconst 0, 1) := by decide +kernel
theorem dX11_lines_35 : decode cX11_lines 35 = .ok (.istore 4, 2) := by decide +kernel
theorem dX11_lines_37 : decode cX11_lines 37 = .ok (.iload 4, 2) := by decide +kernel
theorem dX11_lines_39 : decode cX11_lines 39 = .ok (.aload_n 0, 1) := by decide +kernel
theorem dX11_lines_40 : decode cX11_lines 40 = .ok (.invokevirtual 79, 3) := by decide +kernel
theorem dX11_lines_43 : decode cX11_lines 43 = .ok (.if_icmp .ge 64, 3) := by decide +kernel
theorem dX11_lines_46 : decode cX11_lines 46 = .ok (.aload_n 0, 1) := by decide +kernel
theorem dX11_lines_47 : decode cX11_lines 47 = .ok (.iload 4, 2) := by decide +kernel
theorem dX11_lines_49 : decode cX11_lines 49 = .ok (.iconst 5, 1) := by decide +kernel
theorem dX11_lines_50 : decode cX11_lines 50 = .ok (.invokevirtual 156, 3) := by decide +kernel
theorem dX11_lines_53 : decode cX11_lines 53 = .ok (.ifCond .lt 6, 3) := by decide +kernel
theorem dX11_lines_56 : decode cX11_lines 56 = .ok (.goto 45, 3) := by decide +kernel
theorem dX11_lines_59 : decode cX11_lines 59 = .ok (.iconst 1, 1) := by decide +kernel
theorem dX11_lines_60 : decode cX11_lines 60 = .ok (.aload_n 0, 1) := by decide +kernel
theorem dX11_lines_61 : decode cX11_lines 61 = .ok (.iload 4, 2) := by decide +kernel
theorem dX11_lines_63 : decode cX11_lines 63 = .ok (.iconst 3, 1) := by decide +kernel
theorem dX11_lines_64 : decode cX11_lines 64 = .ok (.invokevirtual 156, 3) := by decide +kernel
theorem dX11_lines_67 : decode cX11_lines 67 = .ok (.iadd, 1) := by decide +kernel
theorem dX11_lines_68 : decode cX11_lines 68 = .ok (.iload_n 1, 1) := by decide +kernel
theorem dX11_lines_69 : decode cX11_lines 69 = .ok (.if_icmp .le 5, 3) := by decide +kernel
theorem dX11_lines_72 : decode cX11_lines 72 = .ok (.iconst (-1), 1) := by decide +kernel
theorem dX11_lines_73 : decode cX11_lines 73 = .ok (.ireturn, 1) := by decide +kernel
theorem dX11_lines_74 : decode cX11_lines 74 = .ok (.aload_n 0, 1) := by decide +kernel
theorem dX11_lines_75 : decode cX11_lines 75 = .ok (.iload 4, 2) := by decide +kernel
theorem dX11_lines_77 : decode cX11_lines 77 = .ok (.iconst 0, 1) := by decide +kernel
theorem dX11_lines_78 : decode cX11_lines 78 = .ok (.invokevirtual 156, 3) := by decide +kernel
theorem dX11_lines_81 : decode cX11_lines 81 = .ok (.ifCond .ne 13, 3) := by decide +kernel
theorem dX11_lines_84 : decode cX11_lines 84 = .ok (.iload_n 2, 1) := by decide +kernel
theorem dX11_lines_85 : decode cX11_lines 85 = .ok (.iconst 1, 1) := by decide +kernel
theorem dX11_lines_86 : decode cX11_lines 86 = .ok (.iload 4, 2) := by decide +kernel
theorem dX11_lines_88 : decode cX11_lines 88 = .ok (.ishl, 1) := by decide +kernel
theorem dX11_lines_89 : decode cX11_lines 89 = .ok (.ior, 1) := by decide +kernel
theorem dX11_lines_90 : decode cX11_lines 90 = .ok (.istore_n 2, 1) := by decide +kernel
theorem dX11_lines_91 : decode cX11_lines 91 = .ok (.goto 10, 3) := by decide +kernel
theorem dX11_lines_94 : decode cX11_lines 94 = .ok (.iload_n 3, 1) := by decide +kernel
theorem dX11_lines_95 : decode cX11_lines 95 = .ok (.iconst 1, 1) := by decide +kernel
theorem dX11_lines_96 : decode cX11_lines 96 = .ok (.iload 4, 2) := by decide +kernel
theorem dX11_lines_98 : decode cX11_lines 98 = .ok (.ishl, 1) := by decide +kernel
theorem dX11_lines_99 : decode cX11_lines 99 = .ok (.ior, 1) := by decide +kernel
theorem dX11_lines_100 : decode cX11_lines 100 = .ok (.istore_n 3, 1) := by decide +kernel
theorem dX11_lines_101 : decode cX11_lines 101 = .ok (.iinc 4 1, 3) := by decide +kernel
theorem dX11_lines_104 : decode cX11_lines 104 = .ok (.goto (-67), 3) := by decide +kernel
theorem dX11_lines_107 : decode cX11_lines 107 = .ok (.aload_n 0, 1) := by decide +kernel
theorem dX11_lines_108 : decode cX11_lines 108 = .ok (.iload_n 2, 1) := by decide +kernel
theorem dX11_lines_109 : decode cX11_lines 109 = .ok (.iload_n 1, 1) := by decide +kernel
theorem dX11_lines_110 : decode cX11_lines 110 = .ok (.invokevirtual 353, 3) := by decide +kernel
theorem dX11_lines_113 : decode cX11_lines 113 = .ok (.aload_n 0, 1) := by decide +kernel
theorem dX11_lines_114 : decode cX11_lines 114 = .ok (.iload_n 3, 1) := by decide +kernel
theorem dX11_lines_115 : decode cX11_lines 115 = .ok (.iload_n 1, 1) := by decide +kernel
theorem dX11_lines_116 : decode cX11_lines 116 = .ok (.invokevirtual 353, 3) := by decide +kernel
theorem dX11_lines_119 : decode cX11_lines 119 = .ok (.iadd, 1) := by decide +kernel
theorem dX11_lines_120 : decode cX11_lines 120 = .ok (.ireturn, 1) := by decide +kernel
set_option maxHeartbeats 4000000 in
set_option maxRecDepth 100000 in
/-- reference: lines -/
theorem r_lines (l : Launch) (D : va_G) (cI cJ cB cC : ClassId) (h : Nat) (th : Int32) (aw : Nat) (ai : Nat) (ab : Nat) (ac : Nat) (hi : Int32) (re : Int32) (aP : Nat) (ta : Int32) (po : Int32) (en : Int32) (be : Int32) (de : Int32) (fa : Int32) (a5 : Nat) (sp : Int32) (av : Nat) (an : Nat) (ak : Nat) (ne : Int32) (aW : Nat) (aC : Nat) (ag : Nat) (aT : Nat) (aN : Nat) (aF : Nat) (fw : Nat → Int32) (fF : Nat → Int32) (b : Int32) (sz : Nat) (H_fw_W : wW fw) : Met l yX11_lines kwX11_lines ({ frames := 2, cells := 0, slots := 0, locals := 50 } : Room) (kPre D (kT cI cJ cB cC) sz [(h, oX11 th aw ai ab ac hi re aP ta po en be de fa a5 sp av an ak ne aW aC ag aT aN aF), (aw, .inl (cI, 2179, .inl fw)), (aF, .inl (cI, 4096, .inl fF))] [.ref h, .int b]) (va_Qi (fun (r : Int32) (uu : Int32 × (Nat → Int32)) => match uu with | (n0_, f1_) => True) (fun (uu : Int32 × (Nat → Int32)) (t : State) => match uu with | (n0_, f1_) => kB D (kT cI cJ cB cC) (va_A [(h, oX11 th aw ai ab ac hi re aP ta po en be de fa a5 sp av an ak ne aW aC ag aT aN aF), (aw, .inl (cI, 2179, .inl fw)), (aF, .inl (cI, 4096, .inl fF))] sz) [(h, oX11 n0_ aw ai ab ac hi re aP ta po en be de fa a5 sp av an ak ne aW aC ag aT aN aF), (aw, .inl (cI, 2179, .inl fw)), (aF, .inl (cI, 4096, .inl f1_))] t) (va_A [(h, oX11 th aw ai ab ac hi re aP ta po en be de fa a5 sp av an ak ne aW aC ag aT aN aF), (aw, .inl (cI, 2179, .inl fw)), (aF, .inl (cI, 4096, .inl fF))] sz)) 0 0 (va_A [(h, oX11 th aw ai ab ac hi re aP ta po en be de fa a5 sp av an ak ne aW aC ag aT aN aF), (aw, .inl (cI, 2179, .inl fw)), (aF, .inl (cI, 4096, .inl fF))] sz) := by
  refine Met.ofW (cc := cX11_lines) (maxL := 5) (ret := (some .int)) (by decide) rfl ?_
  intro p e s m args below meth c s₁ B hml hv
  obtain ⟨rfl, hsz, hN, hE, hP, hK, hD0⟩ := hv
  have hx := B.exec
  have hb := B.bytes
  have hr := B.returns
  have hts := fun (w : Cond) (h : w ∈ kG) => atoms_spec (ws := kwX11_lines) B.pre w (List.mem_cons_of_mem _ h)
  have hown : s.vm.findClass RX11 = some m.cls := findClass_of_methodNamed B.named
  subst hsz
  have hD := hD0.self (sz := s.heap.size)
  generalize hAe : va_A [(h, oX11 th aw ai ab ac hi re aP ta po en be de fa a5 sp av an ak ne aW aC ag aT aN aF), (aw, .inl (cI, 2179, .inl fw)), (aF, .inl (cI, 4096, .inl fF))] s.heap.size = A at hD hE ⊢
  have hA : ∀ q : Nat, s.heap.size ≤ q → A q := fun q h => by rw [← hAe]; exact Or.inr h
  have hl := lv_entry ([.ref h, .int b]) (n := 5) (Nat.le_of_ble_eq_true rfl)
  rw [lg_entry_eq]
  generalize (lg_sl ([.ref h, .int b]) ++ List.replicate (5 - (lg_sl ([.ref h, .int b])).length) Slot.unset).toArray = ls at hl ⊢
  have hl : lv_has ls 5 [(0, .ref h), (1, .int b)] := hl
  obtain ⟨H, hH0⟩ : ∃ H, H = s.heap := ⟨_, rfl⟩
  have hS : va_S A s.heap H [] := by rw [hH0]; exact va_S.rf
  have hP : va_P D vwCl [(h, oX11 th aw ai ab ac hi re aP ta po en be de fa a5 sp av an ak ne aW aC ag aT aN aF), (aw, .inl (cI, 2179, .inl fw)), (aF, .inl (cI, 4096, .inl fF))] H := by rw [hH0]; exact hP
  refine kHeap hH0 ?_
  clear hH0
  refine lv_aload_n hx hb dX11_lines_0 rfl (lv_at hl 0 rfl) ?_
  refine lv_iconst (v := 0) hx hb dX11_lines_1 (by decide) ?_
  refine va_put (D := D) (ci := 10) (v := .int 0) (ty := .int) (C := RX11) (T := TX11) (N := 26) hx hb hts iG_X11 tyX11 tyX11_ok nmX11 hown hK hP hD hS 0 rfl rfl 0 (by decide) (hts _ w6_8) (fun _ h9 => h9) rfl (by decide +kernel) rfl rfl (Nat.le_of_ble_eq_true rfl) dX11_lines_2 (fun H locs hP hD hS => ?_)
  have hP : va_P D vwCl [(h, oX11 0 aw ai ab ac hi re aP ta po en be de fa a5 sp av an ak ne aW aC ag aT aN aF), (aw, .inl (cI, 2179, .inl fw)), (aF, .inl (cI, 4096, .inl fF))] H := hP
  have hD : va_D A [(h, oX11 0 aw ai ab ac hi re aP ta po en be de fa a5 sp av an ak ne aW aC ag aT aN aF), (aw, .inl (cI, 2179, .inl fw)), (aF, .inl (cI, 4096, .inl fF))] := hD
  refine lv_aload_n hx hb dX11_lines_5 rfl (lv_at hl 0 rfl) ?_
  refine lv_iload_n hx hb dX11_lines_6 rfl (lv_at hl 1 rfl) ?_
  refine lv_iconst (v := 1) hx hb dX11_lines_7 (by decide) ?_
  refine lv_bipush (v := 99) hx hb dX11_lines_8 (by decide) ?_
  refine kpurei (wc := []) hP hD hS hA [] rfl (by decide) (fun hPc hDc hFc => va_runS (As := [.int b, .int 1, .int 99]) (rest := [.ref h]) ⟨hx, hb, hml, hown, hts⟩ (r_in_1_99 l D cI cJ cB cC b H.size) (va_cwS 3 hts gX11_lines_X11_in rfl rfl rfl hdX11_in ⟨Nat.le_of_ble_eq_true rfl, Nat.le_of_ble_eq_true rfl⟩) ⟨kBlind, fun U hU hW => ⟨rfl, by rw [hU], hN.warm hW, hE.pass hS hFc hW hU, by rw [hU]; exact hPc, va_K.moved hW.alike hK, hDc⟩⟩ rfl rfl hl.1 rfl (lv_room (Nat.le_of_ble_eq_true rfl)) dX11_lines_10 ⟨Nat.le_of_ble_eq_true rfl, Nat.le_of_ble_eq_true rfl⟩) (fun r1 u H locs hw hP hS => ?_)
  rcases hw with rfl | ⟨rfl, kc2_0⟩
  · skip
    refine lv_if_ne (tgt := 20) hx hb dX11_lines_13 (by decide) (fun c4 => absurd (by decide) c4) (fun _ => ?_)
    refine lv_iconst (v := 1) hx hb dX11_lines_16 (by decide) ?_
    refine lv_goto (tgt := 21) hx hb dX11_lines_17 (by decide) ?_
    refine lv_iconst (v := 1) hx hb dX11_lines_21 (by decide) ?_
    refine kcalli (wc := [(h, oX11 0 aw ai ab ac hi re aP ta po en be de fa a5 sp av an ak ne aW aC ag aT aN aF)]) (wr := [(aw, .inl (cI, 2179, .inl fw)), (aF, .inl (cI, 4096, .inl fF))]) hP hD hS hA [0] [1, 2] rfl rfl (by decide) (by decide) (by decide) (fun hPc hDc hFc => va_runV (As := [.int 1, .int 1]) (rest := []) ⟨hx, hb, hml, hown, hts⟩ (r_throwsIf1_1 l D cI cJ cB cC h 0 aw ai ab ac hi re aP ta po en be de fa a5 sp av an ak ne aW aC ag aT aN aF 1 H.size) (cwV 2 hts gX11_lines_X11_throwsIf rfl rfl rfl ⟨rfl, hdX11_throwsIf⟩ ⟨Nat.le_of_ble_eq_true rfl, Nat.le_of_ble_eq_true rfl⟩) ⟨kBlind, va_recv hK hPc (ci := 10) (q0 := 0) rfl rfl, fun U hU hW => ⟨rfl, by rw [hU], hN.warm hW, hE.pass hS hFc hW hU, by rw [hU]; exact hPc, va_K.moved hW.alike hK, hDc⟩⟩ rfl rfl hl.1 rfl (lv_room (Nat.le_of_ble_eq_true rfl)) dX11_lines_22 ⟨Nat.le_of_ble_eq_true rfl, Nat.le_of_ble_eq_true rfl⟩) (fun r5 u H locs hw hP hD hS => ?_)
    obtain ⟨x6, rfl⟩ : ∃ z, z = u := ⟨_, rfl⟩
    have hP : va_P D vwCl [(aw, .inl (cI, 2179, .inl fw)), (aF, .inl (cI, 4096, .inl fF)), (h, oX11 x6 aw ai ab ac hi re aP ta po en be de fa a5 sp av an ak ne aW aC ag aT aN aF)] H := hP
    have hD : va_D A [(aw, .inl (cI, 2179, .inl fw)), (aF, .inl (cI, 4096, .inl fF)), (h, oX11 x6 aw ai ab ac hi re aP ta po en be de fa a5 sp av an ak ne aW aC ag aT aN aF)] := hD
    have k7 := hw
    refine lv_if_eq (tgt := 30) hx hb dX11_lines_25 (by decide) (fun c8 => absurd c8 (rg_neq k7 (rg_lit (n := 0) (by decide)) (by decide))) (fun _ => ?_)
    refine lv_iconst (v := 0) hx hb dX11_lines_28 (by decide) ?_
    have hP9 := hP.sub (ws' := [(h, oX11 x6 aw ai ab ac hi re aP ta po en be de fa a5 sp av an ak ne aW aC ag aT aN aF), (aw, .inl (cI, 2179, .inl fw)), (aF, .inl (cI, 4096, .inl fF))]) [2, 0, 1] rfl
    have hD9 := hD.sub (ws' := [(h, oX11 x6 aw ai ab ac hi re aP ta po en be de fa a5 sp av an ak ne aW aC ag aT aN aF), (aw, .inl (cI, 2179, .inl fw)), (aF, .inl (cI, 4096, .inl fF))]) [2, 0, 1] (by decide) rfl
    exact W.iret (v := 0) hx hb hr (fun t ht hW => ⟨⟨0, (x6, fF), rfl, trivial, by rw [ht]; exact hP9, va_K.moved hW.alike hK, hD9⟩, hS.F ht⟩) hS.2.2 dX11_lines_29
  · skip
    refine lv_if_ne (tgt := 20) hx hb dX11_lines_13 (by decide) (fun _ => ?_) (fun c10 => absurd c10 (by decide))
    refine lv_iconst (v := 0) hx hb dX11_lines_20 (by decide) ?_
    refine lv_iconst (v := 1) hx hb dX11_lines_21 (by decide) ?_
    refine kpurei (wc := [(h, oX11 0 aw ai ab ac hi re aP ta po en be de fa a5 sp av an ak ne aW aC ag aT aN aF)]) hP hD hS hA [0] rfl (by decide) (fun hPc hDc hFc => va_runV (As := [.int 0, .int 1]) (rest := []) ⟨hx, hb, hml, hown, hts⟩ (r_throwsIf0_1 l D cI cJ cB cC h 0 aw ai ab ac hi re aP ta po en be de fa a5 sp av an ak ne aW aC ag aT aN aF 1 H.size) (cwV 2 hts gX11_lines_X11_throwsIf rfl rfl rfl ⟨rfl, hdX11_throwsIf⟩ ⟨Nat.le_of_ble_eq_true rfl, Nat.le_of_ble_eq_true rfl⟩) ⟨kBlind, va_recv hK hPc (ci := 10) (q0 := 0) rfl rfl, fun U hU hW => ⟨rfl, by rw [hU], hN.warm hW, hE.pass hS hFc hW hU, by rw [hU]; exact hPc, va_K.moved hW.alike hK, hDc⟩⟩ rfl rfl hl.1 rfl (lv_room (Nat.le_of_ble_eq_true rfl)) dX11_lines_22 ⟨Nat.le_of_ble_eq_true rfl, Nat.le_of_ble_eq_true rfl⟩) (fun r11 u H locs hw hP hS => ?_)
    have k12 := hw
    refine lv_if_eq (tgt := 30) hx hb dX11_lines_25 (by decide) (fun _ => ?_) (fun c13 => absurd (rg_eq k12 (rg_lit (n := 0) (by decide)) (by decide)) c13)
    refine lv_iconst (v := 0) hx hb dX11_lines_30 (by decide) ?_
    refine lv_istore_n (lv' := [(2, .int 0), (0, .ref h), (1, .int b)]) hx hb dX11_lines_31 rfl hl (by decide) rfl (fun ls hl => ?_)
    refine lv_iconst (v := 0) hx hb dX11_lines_32 (by decide) ?_
    refine lv_istore_n (lv' := [(3, .int 0), (2, .int 0), (0, .ref h), (1, .int b)]) hx hb dX11_lines_33 rfl hl (by decide) rfl (fun ls hl => ?_)
    refine lv_iconst (v := 0) hx hb dX11_lines_34 (by decide) ?_
    refine lv_istore (lv' := [(4, .int 0), (3, .int 0), (2, .int 0), (0, .ref h), (1, .int b)]) hx hb dX11_lines_35 hl (by decide) rfl (fun ls hl => ?_)
    refine k_loop (hd := 37) (fun (u : Int32 × Int32 × Int32) => match u with | (y593, y594, y595) => (12 - (y593).toInt).toNat) (fun (u : Int32 × Int32 × Int32) (H : Heap) (locs : List Loc) (ls : Array Slot) => match u with | (y593, y594, y595) => Rg y593 0 12 ∧ Rg y594 0 4095 ∧ Rg y595 0 4095 ∧ va_P D vwCl [(h, oX11 0 aw ai ab ac hi re aP ta po en be de fa a5 sp av an ak ne aW aC ag aT aN aF), (aw, .inl (cI, 2179, .inl fw)), (aF, .inl (cI, 4096, .inl fF))] H ∧ va_D A [(h, oX11 0 aw ai ab ac hi re aP ta po en be de fa a5 sp av an ak ne aW aC ag aT aN aF), (aw, .inl (cI, 2179, .inl fw)), (aF, .inl (cI, 4096, .inl fF))] ∧ va_S A s.heap H locs ∧ lv_has ls 5 [(4, .int y593), (3, .int y594), (2, .int y595), (0, .ref h), (1, .int b)]) ((0 : Int32), (0 : Int32), (0 : Int32)) ⟨(rg_w (rg_lit (n := 0) (by decide)) (by decide)), (rg_w (rg_lit (n := 0) (by decide)) (by decide)), (rg_w (rg_lit (n := 0) (by decide)) (by decide)), hP.sub (ws' := [(h, oX11 0 aw ai ab ac hi re aP ta po en be de fa a5 sp av an ak ne aW aC ag aT aN aF), (aw, .inl (cI, 2179, .inl fw)), (aF, .inl (cI, 4096, .inl fF))]) [0, 1, 2] rfl, hD.sub (ws' := [(h, oX11 0 aw ai ab ac hi re aP ta po en be de fa a5 sp av an ak ne aW aC ag aT aN aF), (aw, .inl (cI, 2179, .inl fw)), (aF, .inl (cI, 4096, .inl fF))]) [0, 1, 2] (by decide) rfl, hS, lv_sub (l' := [(4, .int 0), (3, .int 0), (2, .int 0), (0, .ref h), (1, .int b)]) hl [0, 1, 2, 3, 4] rfl⟩ (fun u H locs ls hI ih596 => ?_)
    clear hP hD hS hl
    obtain ⟨y593, y594, y595⟩ := u
    obtain ⟨hy593, hy594, hy595, hP, hD, hS, hl⟩ := hI
    have hP : va_P D vwCl [(h, oX11 0 aw ai ab ac hi re aP ta po en be de fa a5 sp av an ak ne aW aC ag aT aN aF), (aw, .inl (cI, 2179, .inl fw)), (aF, .inl (cI, 4096, .inl fF))] H := hP
    have hD : va_D A [(h, oX11 0 aw ai ab ac hi re aP ta po en be de fa a5 sp av an ak ne aW aC ag aT aN aF), (aw, .inl (cI, 2179, .inl fw)), (aF, .inl (cI, 4096, .inl fF))] := hD
    have hl : lv_has ls 5 [(4, .int y593), (3, .int y594), (2, .int y595), (0, .ref h), (1, .int b)] := hl
    refine lv_iload hx hb dX11_lines_37 (lv_at hl 0 rfl) ?_
    refine lv_aload_n hx hb dX11_lines_39 rfl (lv_at hl 3 rfl) ?_
    refine kpurei (wc := [(h, oX11 0 aw ai ab ac hi re aP ta po en be de fa a5 sp av an ak ne aW aC ag aT aN aF), (aw, .inl (cI, 2179, .inl fw))]) hP hD hS hA [0, 1] rfl (by decide) (fun hPc hDc hFc => va_runV (As := []) (rest := [.int y593]) ⟨hx, hb, hml, hown, hts⟩ (r_shirts l D cI cJ cB cC h 0 aw ai ab ac hi re aP ta po en be de fa a5 sp av an ak ne aW aC ag aT aN aF fw H.size H_fw_W) (cwV 0 hts gX11_lines_X11_shirts rfl rfl rfl ⟨rfl, hdX11_shirts⟩ ⟨Nat.le_of_ble_eq_true rfl, Nat.le_of_ble_eq_true rfl⟩) ⟨kBlind, va_recv hK hPc (ci := 10) (q0 := 0) rfl rfl, fun U hU hW => ⟨rfl, by rw [hU], hN.warm hW, hE.pass hS hFc hW hU, by rw [hU]; exact hPc, va_K.moved hW.alike hK, hDc⟩⟩ rfl rfl hl.1 rfl (lv_room (Nat.le_of_ble_eq_true rfl)) dX11_lines_40 ⟨Nat.le_of_ble_eq_true rfl, Nat.le_of_ble_eq_true rfl⟩) (fun r597 u H locs hw hP hS => ?_)
    obtain ⟨k598, k599⟩ := hw
    refine lv_icmp_ge (tgt := 107) hx hb dX11_lines_43 (by decide) (fun c600 => ?_) (fun c600 => ?_)
    · skip
      refine lv_aload_n hx hb dX11_lines_107 rfl (lv_at hl 3 rfl) ?_
      refine lv_iload_n hx hb dX11_lines_108 rfl (lv_at hl 2 rfl) ?_
      refine lv_iload_n hx hb dX11_lines_109 rfl (lv_at hl 4 rfl) ?_
      refine kcalli (wc := [(h, oX11 0 aw ai ab ac hi re aP ta po en be de fa a5 sp av an ak ne aW aC ag aT aN aF), (aw, .inl (cI, 2179, .inl fw)), (aF, .inl (cI, 4096, .inl fF))]) (wr := []) hP hD hS hA [0, 1, 2] [] rfl rfl (by decide) (by decide) (by decide) (fun hPc hDc hFc => va_runV (As := [.int y595, .int b]) (rest := []) ⟨hx, hb, hml, hown, hts⟩ (r_linesFor l D cI cJ cB cC h 0 aw ai ab ac hi re aP ta po en be de fa a5 sp av an ak ne aW aC ag aT aN aF fw fF y595 b H.size hy595 H_fw_W) (cwV 2 hts gX11_lines_X11_linesFor rfl rfl rfl ⟨rfl, hdX11_linesFor⟩ ⟨Nat.le_of_ble_eq_true rfl, Nat.le_of_ble_eq_true rfl⟩) ⟨kBlind, va_recv hK hPc (ci := 10) (q0 := 0) rfl rfl, fun U hU hW => ⟨rfl, by rw [hU], hN.warm hW, hE.pass hS hFc hW hU, by rw [hU]; exact hPc, va_K.moved hW.alike hK, hDc⟩⟩ rfl rfl hl.1 rfl (lv_room (Nat.le_of_ble_eq_true rfl)) dX11_lines_110 ⟨Nat.le_of_ble_eq_true rfl, Nat.le_of_ble_eq_true rfl⟩) (fun r601 u H locs hw hP hD hS => ?_)
      obtain ⟨g602, rfl⟩ : ∃ z, z = u := ⟨_, rfl⟩
      have hP : va_P D vwCl [(h, oX11 0 aw ai ab ac hi re aP ta po en be de fa a5 sp av an ak ne aW aC ag aT aN aF), (aw, .inl (cI, 2179, .inl fw)), (aF, .inl (cI, 4096, .inl g602))] H := hP
      have hD : va_D A [(h, oX11 0 aw ai ab ac hi re aP ta po en be de fa a5 sp av an ak ne aW aC ag aT aN aF), (aw, .inl (cI, 2179, .inl fw)), (aF, .inl (cI, 4096, .inl g602))] := hD
      refine lv_aload_n hx hb dX11_lines_113 rfl (lv_at hl 3 rfl) ?_
      refine lv_iload_n hx hb dX11_lines_114 rfl (lv_at hl 1 rfl) ?_
      refine lv_iload_n hx hb dX11_lines_115 rfl (lv_at hl 4 rfl) ?_
      refine kcalli (wc := [(h, oX11 0 aw ai ab ac hi re aP ta po en be de fa a5 sp av an ak ne aW aC ag aT aN aF), (aw, .inl (cI, 2179, .inl fw)), (aF, .inl (cI, 4096, .inl g602))]) (wr := []) hP hD hS hA [0, 1, 2] [] rfl rfl (by decide) (by decide) (by decide) (fun hPc hDc hFc => va_runV (As := [.int y594, .int b]) (rest := [.int r601]) ⟨hx, hb, hml, hown, hts⟩ (r_linesFor l D cI cJ cB cC h 0 aw ai ab ac hi re aP ta po en be de fa a5 sp av an ak ne aW aC ag aT aN aF fw g602 y594 b H.size hy594 H_fw_W) (cwV 2 hts gX11_lines_X11_linesFor rfl rfl rfl ⟨rfl, hdX11_linesFor⟩ ⟨Nat.le_of_ble_eq_true rfl, Nat.le_of_ble_eq_true rfl⟩) ⟨kBlind, va_recv hK hPc (ci := 10) (q0 := 0) rfl rfl, fun U hU hW => ⟨rfl, by rw [hU], hN.warm hW, hE.pass hS hFc hW hU, by rw [hU]; exact hPc, va_K.moved hW.alike hK, hDc⟩⟩ rfl rfl hl.1 rfl (lv_room (Nat.le_of_ble_eq_true rfl)) dX11_lines_116 ⟨Nat.le_of_ble_eq_true rfl, Nat.le_of_ble_eq_true rfl⟩) (fun r603 u H locs hw hP hD hS => ?_)
      obtain ⟨g604, rfl⟩ : ∃ z, z = u := ⟨_, rfl⟩
      have hP : va_P D vwCl [(h, oX11 0 aw ai ab ac hi re aP ta po en be de fa a5 sp av an ak ne aW aC ag aT aN aF), (aw, .inl (cI, 2179, .inl fw)), (aF, .inl (cI, 4096, .inl g604))] H := hP
      have hD : va_D A [(h, oX11 0 aw ai ab ac hi re aP ta po en be de fa a5 sp av an ak ne aW aC ag aT aN aF), (aw, .inl (cI, 2179, .inl fw)), (aF, .inl (cI, 4096, .inl g604))] := hD
      refine lv_iadd hx hb dX11_lines_119 ?_
      refine lv_topi (fun x605 ex605 => ?_)
      clear ex605
      have hP9 := hP.sub (ws' := [(h, oX11 0 aw ai ab ac hi re aP ta po en be de fa a5 sp av an ak ne aW aC ag aT aN aF), (aw, .inl (cI, 2179, .inl fw)), (aF, .inl (cI, 4096, .inl g604))]) [0, 1, 2] rfl
      have hD9 := hD.sub (ws' := [(h, oX11 0 aw ai ab ac hi re aP ta po en be de fa a5 sp av an ak ne aW aC ag aT aN aF), (aw, .inl (cI, 2179, .inl fw)), (aF, .inl (cI, 4096, .inl g604))]) [0, 1, 2] (by decide) rfl
      exact W.iret (v := x605) hx hb hr (fun t ht hW => ⟨⟨x605, ((0 : Int32), g604), rfl, trivial, by rw [ht]; exact hP9, va_K.moved hW.alike hK, hD9⟩, hS.F ht⟩) hS.2.2 dX11_lines_120
    · skip
      have k606 : Rg y593 0 11 := rg_l1 (nleI c600) hy593 k599 (by decide)
      have k607 : Rg r597 1 12 := rg_l2 (nleI c600) hy593 k599 (by decide)
      refine lv_aload_n hx hb dX11_lines_46 rfl (lv_at hl 3 rfl) ?_
      refine lv_iload hx hb dX11_lines_47 (lv_at hl 0 rfl) ?_
      refine lv_iconst (v := 5) hx hb dX11_lines_49 (by decide) ?_
      refine kpurei (wc := [(h, oX11 0 aw ai ab ac hi re aP ta po en be de fa a5 sp av an ak ne aW aC ag aT aN aF), (aw, .inl (cI, 2179, .inl fw))]) hP hD hS hA [0, 1] rfl (by decide) (fun hPc hDc hFc => va_runV (As := [.int y593, .int 5]) (rest := []) ⟨hx, hb, hml, hown, hts⟩ (r_of5 l D cI cJ cB cC h 0 aw ai ab ac hi re aP ta po en be de fa a5 sp av an ak ne aW aC ag aT aN aF fw y593 H.size k606 H_fw_W) (cwV 2 hts gX11_lines_X11_of rfl rfl rfl ⟨rfl, hdX11_of⟩ ⟨Nat.le_of_ble_eq_true rfl, Nat.le_of_ble_eq_true rfl⟩) ⟨kBlind, va_recv hK hPc (ci := 10) (q0 := 0) rfl rfl, fun U hU hW => ⟨rfl, by rw [hU], hN.warm hW, hE.pass hS hFc hW hU, by rw [hU]; exact hPc, va_K.moved hW.alike hK, hDc⟩⟩ rfl rfl hl.1 rfl (lv_room (Nat.le_of_ble_eq_true rfl)) dX11_lines_50 ⟨Nat.le_of_ble_eq_true rfl, Nat.le_of_ble_eq_true rfl⟩) (fun r608 u H locs hw hP hS => ?_)
      obtain ⟨k609, k610⟩ := hw
      refine k_join (hd := 101) (cells2 := 0) (slots2 := 0) (fun (u : Int32 × Int32) => match u with | (y634, y635) => []) (fun (u : Int32 × Int32) (H : Heap) (locs : List Loc) (ls : Array Slot) => match u with | (y634, y635) => Rg y634 0 4095 ∧ Rg y635 0 4095 ∧ va_P D vwCl [(h, oX11 0 aw ai ab ac hi re aP ta po en be de fa a5 sp av an ak ne aW aC ag aT aN aF), (aw, .inl (cI, 2179, .inl fw)), (aF, .inl (cI, 4096, .inl fF))] H ∧ va_D A [(h, oX11 0 aw ai ab ac hi re aP ta po en be de fa a5 sp av an ak ne aW aC ag aT aN aF), (aw, .inl (cI, 2179, .inl fw)), (aF, .inl (cI, 4096, .inl fF))] ∧ va_S A s.heap H locs ∧ lv_has ls 5 [(4, .int y593), (3, .int y634), (2, .int y635), (0, .ref h), (1, .int b)]) (fun u H locs ls hI => ?_) (fun hJ101 => ?_)
      · skip
        clear hP hD hS hl
        obtain ⟨y634, y635⟩ := u
        obtain ⟨hy634, hy635, hP, hD, hS, hl⟩ := hI
        have hP : va_P D vwCl [(h, oX11 0 aw ai ab ac hi re aP ta po en be de fa a5 sp av an ak ne aW aC ag aT aN aF), (aw, .inl (cI, 2179, .inl fw)), (aF, .inl (cI, 4096, .inl fF))] H := hP
        have hD : va_D A [(h, oX11 0 aw ai ab ac hi re aP ta po en be de fa a5 sp av an ak ne aW aC ag aT aN aF), (aw, .inl (cI, 2179, .inl fw)), (aF, .inl (cI, 4096, .inl fF))] := hD
        have hl : lv_has ls 5 [(4, .int y593), (3, .int y634), (2, .int y635), (0, .ref h), (1, .int b)] := hl
        obtain ⟨x636, ex636⟩ : ∃ y : Int32, y = y593 + 1 := ⟨_, rfl⟩
        refine lv_iinc (v := x636) (lv' := [(4, .int x636), (3, .int y634), (2, .int y635), (0, .ref h), (1, .int b)]) hx hb dX11_lines_101 hl (k := 0) rfl (by rw [ex636]; rfl) (by decide) rfl (fun ls hl => ?_)
        have k637 : Rg x636 1 12 := rg_add ex636 k606 (rg_lit (n := 1) (by decide)) (by decide)
        refine lv_goto (tgt := 37) hx hb dX11_lines_104 (by decide) ?_
        exact ih596 (x636, y634, y635) _ _ _ (by show (12 - (x636).toInt).toNat < (12 - (y593).toInt).toNat; exact mu_up ex636 k606 k637 (by decide)) ⟨(rg_w k637 (by decide)), hy634, hy635, hP.sub (ws' := [(h, oX11 0 aw ai ab ac hi re aP ta po en be de fa a5 sp av an ak ne aW aC ag aT aN aF), (aw, .inl (cI, 2179, .inl fw)), (aF, .inl (cI, 4096, .inl fF))]) [0, 1, 2] rfl, hD.sub (ws' := [(h, oX11 0 aw ai ab ac hi re aP ta po en be de fa a5 sp av an ak ne aW aC ag aT aN aF), (aw, .inl (cI, 2179, .inl fw)), (aF, .inl (cI, 4096, .inl fF))]) [0, 1, 2] (by decide) rfl, hS, lv_sub (l' := [(4, .int x636), (3, .int y634), (2, .int y635), (0, .ref h), (1, .int b)]) hl [0, 1, 2, 3, 4] rfl⟩
      refine lv_if_lt (tgt := 59) hx hb dX11_lines_53 (by decide) (fun c638 => ?_) (fun c638 => ?_)
      · skip
        have k639 : Rg r608 (-1) (-1) := rg_l1 (ltI c638) k610 (rg_lit (n := 0) (by decide)) (by decide)
        refine lv_iconst (v := 1) hx hb dX11_lines_59 (by decide) ?_
        refine lv_aload_n hx hb dX11_lines_60 rfl (lv_at hl 3 rfl) ?_
        refine lv_iload hx hb dX11_lines_61 (lv_at hl 0 rfl) ?_
        refine lv_iconst (v := 3) hx hb dX11_lines_63 (by decide) ?_
        refine kpurei (wc := [(h, oX11 0 aw ai ab ac hi re aP ta po en be de fa a5 sp av an ak ne aW aC ag aT aN aF), (aw, .inl (cI, 2179, .inl fw))]) hP hD hS hA [0, 1] rfl (by decide) (fun hPc hDc hFc => va_runV (As := [.int y593, .int 3]) (rest := [.int 1]) ⟨hx, hb, hml, hown, hts⟩ (r_of3 l D cI cJ cB cC h 0 aw ai ab ac hi re aP ta po en be de fa a5 sp av an ak ne aW aC ag aT aN aF fw y593 H.size k606 H_fw_W) (cwV 2 hts gX11_lines_X11_of rfl rfl rfl ⟨rfl, hdX11_of⟩ ⟨Nat.le_of_ble_eq_true rfl, Nat.le_of_ble_eq_true rfl⟩) ⟨kBlind, va_recv hK hPc (ci := 10) (q0 := 0) rfl rfl, fun U hU hW => ⟨rfl, by rw [hU], hN.warm hW, hE.pass hS hFc hW hU, by rw [hU]; exact hPc, va_K.moved hW.alike hK, hDc⟩⟩ rfl rfl hl.1 rfl (lv_room (Nat.le_of_ble_eq_true rfl)) dX11_lines_64 ⟨Nat.le_of_ble_eq_true rfl, Nat.le_of_ble_eq_true rfl⟩) (fun r640 u H locs hw hP hS => ?_)
        have k641 := hw
        refine lv_iadd hx hb dX11_lines_67 ?_
        refine lv_topi (fun x642 ex642 => ?_)
        clear ex642
        refine lv_iload_n hx hb dX11_lines_68 rfl (lv_at hl 4 rfl) ?_
        refine lv_icmp_le (tgt := 74) hx hb dX11_lines_69 (by decide) (fun c643 => ?_) (fun c643 => ?_)
        · skip
          have k644 : Rg x642 (-2147483648) 99 := rg_e1 (leI c643) (rg_any x642) kc2_0 (by decide)
          refine lv_aload_n hx hb dX11_lines_74 rfl (lv_at hl 3 rfl) ?_
          refine lv_iload hx hb dX11_lines_75 (lv_at hl 0 rfl) ?_
          refine lv_iconst (v := 0) hx hb dX11_lines_77 (by decide) ?_
          refine kpurei (wc := [(h, oX11 0 aw ai ab ac hi re aP ta po en be de fa a5 sp av an ak ne aW aC ag aT aN aF), (aw, .inl (cI, 2179, .inl fw))]) hP hD hS hA [0, 1] rfl (by decide) (fun hPc hDc hFc => va_runV (As := [.int y593, .int 0]) (rest := []) ⟨hx, hb, hml, hown, hts⟩ (r_of0 l D cI cJ cB cC h 0 aw ai ab ac hi re aP ta po en be de fa a5 sp av an ak ne aW aC ag aT aN aF fw y593 H.size k606 H_fw_W) (cwV 2 hts gX11_lines_X11_of rfl rfl rfl ⟨rfl, hdX11_of⟩ ⟨Nat.le_of_ble_eq_true rfl, Nat.le_of_ble_eq_true rfl⟩) ⟨kBlind, va_recv hK hPc (ci := 10) (q0 := 0) rfl rfl, fun U hU hW => ⟨rfl, by rw [hU], hN.warm hW, hE.pass hS hFc hW hU, by rw [hU]; exact hPc, va_K.moved hW.alike hK, hDc⟩⟩ rfl rfl hl.1 rfl (lv_room (Nat.le_of_ble_eq_true rfl)) dX11_lines_78 ⟨Nat.le_of_ble_eq_true rfl, Nat.le_of_ble_eq_true rfl⟩) (fun r645 u H locs hw hP hS => ?_)
          have k646 := hw
          refine lv_if_ne (tgt := 94) hx hb dX11_lines_81 (by decide) (fun c647 => ?_) (fun c647 => ?_)
          · skip
            refine lv_iload_n hx hb dX11_lines_94 rfl (lv_at hl 1 rfl) ?_
            refine lv_iconst (v := 1) hx hb dX11_lines_95 (by decide) ?_
            refine lv_iload hx hb dX11_lines_96 (lv_at hl 0 rfl) ?_
            refine lv_ishl hx hb dX11_lines_98 ?_
            refine lv_topi (fun x648 ex648 => ?_)
            have k649 : Rg x648 1 2048 := rg_shl1 11 ex648 k606 (by decide)
            clear ex648
            refine lv_ior hx hb dX11_lines_99 ?_
            refine lv_topi (fun x650 ex650 => ?_)
            have k651 : Rg x650 0 4095 := rg_or 12 ex650 hy594 k649 (by decide)
            clear ex650
            refine lv_istore_n (lv' := [(3, .int x650), (4, .int y593), (2, .int y595), (0, .ref h), (1, .int b)]) hx hb dX11_lines_100 rfl hl (by decide) rfl (fun ls hl => ?_)
            exact hJ101 (x650, y595) _ _ _ ⟨k651, hy595, hP.sub (ws' := [(h, oX11 0 aw ai ab ac hi re aP ta po en be de fa a5 sp av an ak ne aW aC ag aT aN aF), (aw, .inl (cI, 2179, .inl fw)), (aF, .inl (cI, 4096, .inl fF))]) [0, 1, 2] rfl, hD.sub (ws' := [(h, oX11 0 aw ai ab ac hi re aP ta po en be de fa a5 sp av an ak ne aW aC ag aT aN aF), (aw, .inl (cI, 2179, .inl fw)), (aF, .inl (cI, 4096, .inl fF))]) [0, 1, 2] (by decide) rfl, hS, lv_sub (l' := [(4, .int y593), (3, .int x650), (2, .int y595), (0, .ref h), (1, .int b)]) hl [1, 0, 2, 3, 4] rfl⟩
          · skip
            have k652 : Rg r645 0 0 := rg_q1 (eqI c647) (rg_any r645) (rg_lit (n := 0) (by decide)) (by decide)
            refine lv_iload_n hx hb dX11_lines_84 rfl (lv_at hl 2 rfl) ?_
            refine lv_iconst (v := 1) hx hb dX11_lines_85 (by decide) ?_
            refine lv_iload hx hb dX11_lines_86 (lv_at hl 0 rfl) ?_
            refine lv_ishl hx hb dX11_lines_88 ?_
            refine lv_topi (fun x653 ex653 => ?_)
            have k654 : Rg x653 1 2048 := rg_shl1 11 ex653 k606 (by decide)
            clear ex653
            refine lv_ior hx hb dX11_lines_89 ?_
            refine lv_topi (fun x655 ex655 => ?_)
            have k656 : Rg x655 0 4095 := rg_or 12 ex655 hy595 k654 (by decide)
            clear ex655
            refine lv_istore_n (lv' := [(2, .int x655), (4, .int y593), (3, .int y594), (0, .ref h), (1, .int b)]) hx hb dX11_lines_90 rfl hl (by decide) rfl (fun ls hl => ?_)
            refine lv_goto (tgt := 101) hx hb dX11_lines_91 (by decide) ?_
            exact hJ101 (y594, x655) _ _ _ ⟨hy594, k656, hP.sub (ws' := [(h, oX11 0 aw ai ab ac hi re aP ta po en be de fa a5 sp av an ak ne aW aC ag aT aN aF), (aw, .inl (cI, 2179, .inl fw)), (aF, .inl (cI, 4096, .inl fF))]) [0, 1, 2] rfl, hD.sub (ws' := [(h, oX11 0 aw ai ab ac hi re aP ta po en be de fa a5 sp av an ak ne aW aC ag aT aN aF), (aw, .inl (cI, 2179, .inl fw)), (aF, .inl (cI, 4096, .inl fF))]) [0, 1, 2] (by decide) rfl, hS, lv_sub (l' := [(4, .int y593), (3, .int y594), (2, .int x655), (0, .ref h), (1, .int b)]) hl [1, 2, 0, 3, 4] rfl⟩
        · skip
          have k657 : Rg x642 2 2147483647 := rg_l2 (nleI c643) kc2_0 (rg_any x642) (by decide)
          refine lv_iconst (v := (-1)) hx hb dX11_lines_72 (by decide) ?_
          have hP9 := hP.sub (ws' := [(h, oX11 0 aw ai ab ac hi re aP ta po en be de fa a5 sp av an ak ne aW aC ag aT aN aF), (aw, .inl (cI, 2179, .inl fw)), (aF, .inl (cI, 4096, .inl fF))]) [0, 1, 2] rfl
          have hD9 := hD.sub (ws' := [(h, oX11 0 aw ai ab ac hi re aP ta po en be de fa a5 sp av an ak ne aW aC ag aT aN aF), (aw, .inl (cI, 2179, .inl fw)), (aF, .inl (cI, 4096, .inl fF))]) [0, 1, 2] (by decide) rfl
          exact W.iret (v := (-1)) hx hb hr (fun t ht hW => ⟨⟨(-1), ((0 : Int32), fF), rfl, trivial, by rw [ht]; exact hP9, va_K.moved hW.alike hK, hD9⟩, hS.F ht⟩) hS.2.2 dX11_lines_73
      · skip
        have k658 : Rg r608 0 9 := rg_e2 (nltI c638) (rg_lit (n := 0) (by decide)) k610 (by decide)
        refine lv_goto (tgt := 101) hx hb dX11_lines_56 (by decide) ?_
        exact hJ101 (y594, y595) _ _ _ ⟨hy594, hy595, hP.sub (ws' := [(h, oX11 0 aw ai ab ac hi re aP ta po en be de fa a5 sp av an ak ne aW aC ag aT aN aF), (aw, .inl (cI, 2179, .inl fw)), (aF, .inl (cI, 4096, .inl fF))]) [0, 1, 2] rfl, hD.sub (ws' := [(h, oX11 0 aw ai ab ac hi re aP ta po en be de fa a5 sp av an ak ne aW aC ag aT aN aF), (aw, .inl (cI, 2179, .inl fw)), (aF, .inl (cI, 4096, .inl fF))]) [0, 1, 2] (by decide) rfl, hS, lv_sub (l' := [(4, .int y593), (3, .int y594), (2, .int y595), (0, .ref h), (1, .int b)]) hl [0, 1, 2, 3, 4] rfl⟩

def kwX11_blue : List Cond := .code yX11_blue cX11_blue 7 (some .int) :: kG
theorem hdX11_blue : yX11_blue.cls ≠ "java/lang/invoke/MethodHandle" ∧ yX11_blue.cls ≠ "java/lang/invoke/VarHandle" ∧ (parseMethodDescriptor yX11_blue.desc).map (fun d => d.parameters.length) = some 3 := by decide +kernel
theorem gX11_blue_X11_in : GoodIn kG (va_wsS RX11 75 yX11_in kwX11_in) := gK w27_8 (gK w27_9 (gK w0_5 (gK w27_10 gGG)))
theorem gX11_blue_X11_throwsIf : GoodIn kG (wsV RX11 258 RX11 yX11_throwsIf kwX11_throwsIf) := gK w23_6 (gK w23_7 (gK w23_8 (gK w0_5 (gK w23_9 gGG))))
theorem dX11_blue_0 : decode cX11_blue 0 = .ok (.aload_n 0, 1) := by decide +kernel
theorem dX11_blue_1 : decode cX11_blue 1 = .ok (.iconst 0, 1) := by decide +kernel
theorem dX11_blue_2 : decode cX11_blue 2 = .ok (.putfield 3, 3) := by decide +kernel
theorem dX11_blue_5 : decode cX11_blue 5 = .ok (.aload_n 0, 1) := by decide +kernel
theorem dX11_blue_6 : decode cX11_blue 6 = .ok (.iload_n 1, 1) := by decide +kernel
theorem dX11_blue_7 : decode cX11_blue 7 = .ok (.iconst (-1), 1) := by decide +kernel
theorem dX11_blue_8 : decode cX11_blue 8 = .ok (.iconst 2, 1) := by decide +kernel
theorem dX11_blue_9 : decode cX11_blue 9 = .ok (.invokestatic 75, 3) := by decide +kernel
theorem dX11_blue_12 : decode cX11_blue 12 = .ok (.ifCond .eq 22, 3) := by decide +kernel
theorem dX11_blue_15 : decode cX11_blue 15 = .ok (.iload_n 2, 1) := by decide +kernel
theorem dX11_blue_16 : decode cX11_blue 16 = .ok (.iconst (-1), 1) := by decide +kernel
theorem dX11_blue_17 : decode cX11_blue 17 = .ok (.iconst 2, 1) := by decide +kernel
theorem dX11_blue_18 : decode cX11_blue 18 = .ok (.invokestatic 75, 3) := by decide +kernel
theorem dX11_blue_21 : decode cX11_blue 21 = .ok (.ifCond .eq 13, 3) := by decide +kernel
theorem dX11_blue_24 : decode cX11_blue 24 = .ok (.iload_n 3, 1) := by decide +kernel
theorem dX11_blue_25 : decode cX11_blue 25 = .ok (.iconst 1, 1) := by decide +kernel
theorem dX11_blue_26 : decode cX11_blue 26 = .ok (.bipush 9, 2) := by decide +kernel
theorem dX11_blue_28 : decode cX11_blue 28 = .ok (.invokestatic 75, 3) := by decide +kernel
theorem dX11_blue_31 : decode cX11_blue 31 = .ok (.ifCond .ne 7, 3) := by decide +kernel
theorem dX11_blue_34 : decode cX11_blue 34 = .ok (.iconst 1, 1) := by decide +kernel
theorem dX11_blue_35 : decode cX11_blue 35 = .ok (.goto 4, 3) := by decide +kernel
theorem dX11_blue_38 : decode cX11_blue 38 = .ok (.iconst 0, 1) := by decide +kernel
theorem dX11_blue_39 : decode cX11_blue 39 = .ok (.iconst 1, 1) := by decide +kernel
theorem dX11_blue_40 : decode cX11_blue 40 = .ok (.invokevirtual 258, 3) := by decide +kernel
theorem dX11_blue_43 : decode cX11_blue 43 = .ok (.ifCond .eq 5, 3) := by decide +kernel
theorem dX11_blue_46 : decode cX11_blue 46 = .ok (.iconst 0, 1) := by decide +kernel
theorem dX11_blue_47 : decode cX11_blue 47 = .ok (.ireturn, 1) := by decide +kernel
theorem dX11_blue_48 : decode cX11_blue 48 = .ok (.ldc2_w 356, 3) := by decide +kernel
theorem dX11_blue_51 : decode cX11_blue 51 = .ok (.lstore 4, 2) := by decide +kernel
theorem dX11_blue_53 : decode cX11_blue 53 = .ok (.iconst 0, 1) := by decide +kernel
theorem dX11_blue_54 : decode cX11_blue 54 = .ok (.istore 6, 2) := by decide +kernel
theorem dX11_blue_56 : decode cX11_blue 56 = .ok (.iload 6, 2) := by decide +kernel
theorem dX11_blue_58 : decode cX11_blue 58 = .ok (.iload_n 3, 1) := by decide +kernel
theorem dX11_blue_59 : decode cX11_blue 59 = .ok (.if_icmp .ge 67, 3) := by decide +kernel
theorem dX11_blue_62 : decode cX11_blue 62 = .ok (.iload_n 1, 1) := by decide +kernel
theorem dX11_blue_63 : decode cX11_blue 63 = .ok (.ifCond .le 24, 3) := by decide +kernel
theorem dX11_blue_66 : decode cX11_blue 66 = .ok (.lload 4, 2) := by decide +kernel
theorem dX11_blue_68 : decode cX11_blue 68 = .ok (.bipush 100, 2) := by decide +kernel
theorem dX11_blue_70 : decode cX11_blue 70 = .ok (.aload_n 0, 1) := by decide +kernel
theorem dX11_blue_71 : decode cX11_blue 71 = .ok (.getfield 13, 3) := by decide +kernel
theorem dX11_blue_74 : decode cX11_blue 74 = .ok (.bipush 8, 2) := by decide +kernel
theorem dX11_blue_76 : decode cX11_blue 76 = .ok (.iaload, 1) := by decide +kernel
theorem dX11_blue_77 : decode cX11_blue 77 = .ok (.isub, 1) := by decide +kernel
theorem dX11_blue_78 : decode cX11_blue 78 = .ok (.i2l, 1) := by decide +kernel
theorem dX11_blue_79 : decode cX11_blue 79 = .ok (.lmul, 1) := by decide +kernel
theorem dX11_blue_80 : decode cX11_blue 80 = .ok (.ldc2_w 358, 3) := by decide +kernel
theorem dX11_blue_83 : decode cX11_blue 83 = .ok (.ldiv, 1) := by decide +kernel
theorem dX11_blue_84 : decode cX11_blue 84 = .ok (.goto 5, 3) := by decide +kernel
theorem dX11_blue_87 : decode cX11_blue 87 = .ok (.lload 4, 2) := by decide +kernel
theorem dX11_blue_89 : decode cX11_blue 89 = .ok (.lstore 4, 2) := by decide +kernel
theorem dX11_blue_91 : decode cX11_blue 91 = .ok (.iload_n 2, 1) := by decide +kernel
theorem dX11_blue_92 : decode cX11_blue 92 = .ok (.ifCond .le 24, 3) := by decide +kernel
theorem dX11_blue_95 : decode cX11_blue 95 = .ok (.lload 4, 2) := by decide +kernel
theorem dX11_blue_97 : decode cX11_blue 97 = .ok (.bipush 100, 2) := by decide +kernel
theorem dX11_blue_99 : decode cX11_blue 99 = .ok (.aload_n 0, 1) := by decide +kernel
theorem dX11_blue_100 : decode cX11_blue 100 = .ok (.getfield 13, 3) := by decide +kernel
theorem dX11_blue_103 : decode cX11_blue 103 = .ok (.bipush 8, 2) := by decide +kernel
theorem dX11_blue_105 : decode cX11_blue 105 = .ok (.iaload, 1) := by decide +kernel
theorem dX11_blue_106 : decode cX11_blue 106 = .ok (.isub, 1) := by decide +kernel
theorem dX11_blue_107 : decode cX11_blue 107 = .ok (.i2l, 1) := by decide +kernel
theorem dX11_blue_108 : decode cX11_blue 108 = .ok (.lmul, 1) := by decide +kernel
theorem dX11_blue_109 : decode cX11_blue 109 = .ok (.ldc2_w 358, 3) := by decide +kernel
theorem dX11_blue_112 : decode cX11_blue 112 = .ok (.ldiv, 1) := by decide +kernel
theorem dX11_blue_113 : decode cX11_blue 113 = .ok (.goto 5, 3) := by decide +kernel
theorem dX11_blue_116 : decode cX11_blue 116 = .ok (.lload 4, 2) := by decide +kernel
theorem dX11_blue_118 : decode cX11_blue 118 = .ok (.lstore 4, 2) := by decide +kernel
theorem dX11_blue_120 : decode cX11_blue 120 = .ok (.iinc 6 1, 3) := by decide +kernel
theorem dX11_blue_123 : decode cX11_blue 123 = .ok (.goto (-67), 3) := by decide +kernel
theorem dX11_blue_126 : decode cX11_blue 126 = .ok (.lload 4, 2) := by decide +kernel
theorem dX11_blue_128 : decode cX11_blue 128 = .ok (.l2i, 1) := by decide +kernel
theorem dX11_blue_129 : decode cX11_blue 129 = .ok (.ireturn, 1) := by decide +kernel
set_option maxHeartbeats 4000000 in
set_option maxRecDepth 100000 in
/-- reference: blue -/
theorem r_blue (l : Launch) (D : va_G) (cI cJ cB cC : ClassId) (h : Nat) (th : Int32) (aw : Nat) (ai : Nat) (ab : Nat) (ac : Nat) (hi : Int32) (re : Int32) (aP : Nat) (ta : Int32) (po : Int32) (en : Int32) (be : Int32) (de : Int32) (fa : Int32) (a5 : Nat) (sp : Int32) (av : Nat) (an : Nat) (ak : Nat) (ne : Int32) (aW : Nat) (aC : Nat) (ag : Nat) (aT : Nat) (aN : Nat) (aF : Nat) (fw : Nat → Int32) (mm : Int32) (b : Int32) (n : Int32) (sz : Nat) (H_fw_W : wW fw) : Met l yX11_blue kwX11_blue ({ frames := 1, cells := 0, slots := 0, locals := 22 } : Room) (kPre D (kT cI cJ cB cC) sz [(h, oX11 th aw ai ab ac hi re aP ta po en be de fa a5 sp av an ak ne aW aC ag aT aN aF), (aw, .inl (cI, 2179, .inl fw))] [.ref h, .int mm, .int b, .int n]) (va_Qi (fun (r : Int32) (n0_ : Int32) => True) (fun (n0_ : Int32) (t : State) => kB D (kT cI cJ cB cC) (va_A [(h, oX11 th aw ai ab ac hi re aP ta po en be de fa a5 sp av an ak ne aW aC ag aT aN aF), (aw, .inl (cI, 2179, .inl fw))] sz) [(h, oX11 n0_ aw ai ab ac hi re aP ta po en be de fa a5 sp av an ak ne aW aC ag aT aN aF), (aw, .inl (cI, 2179, .inl fw))] t) (va_A [(h, oX11 th aw ai ab ac hi re aP ta po en be de fa a5 sp av an ak ne aW aC ag aT aN aF), (aw, .inl (cI, 2179, .inl fw))] sz)) 0 0 (va_A [(h, oX11 th aw ai ab ac hi re aP ta po en be de fa a5 sp av an ak ne aW aC ag aT aN aF), (aw, .inl (cI, 2179, .inl fw))] sz) := by
  refine Met.ofW (cc := cX11_blue) (maxL := 7) (ret := (some .int)) (by decide) rfl ?_
  intro p e s m args below meth c s₁ B hml hv
  obtain ⟨rfl, hsz, hN, hE, hP, hK, hD0⟩ := hv
  have hx := B.exec
  have hb := B.bytes
  have hr := B.returns
  have hts := fun (w : Cond) (h : w ∈ kG) => atoms_spec (ws := kwX11_blue) B.pre w (List.mem_cons_of_mem _ h)
  have hown : s.vm.findClass RX11 = some m.cls := findClass_of_methodNamed B.named
  subst hsz
  have hD := hD0.self (sz := s.heap.size)
  generalize hAe : va_A [(h, oX11 th aw ai ab ac hi re aP ta po en be de fa a5 sp av an ak ne aW aC ag aT aN aF), (aw, .inl (cI, 2179, .inl fw))] s.heap.size = A at hD hE ⊢
  have hA : ∀ q : Nat, s.heap.size ≤ q → A q := fun q h => by rw [← hAe]; exact Or.inr h
  have hl := lv_entry ([.ref h, .int mm, .int b, .int n]) (n := 7) (Nat.le_of_ble_eq_true rfl)
  rw [lg_entry_eq]
  generalize (lg_sl ([.ref h, .int mm, .int b, .int n]) ++ List.replicate (7 - (lg_sl ([.ref h, .int mm, .int b, .int n])).length) Slot.unset).toArray = ls at hl ⊢
  have hl : lv_has ls 7 [(0, .ref h), (1, .int mm), (2, .int b), (3, .int n)] := hl
  obtain ⟨H, hH0⟩ : ∃ H, H = s.heap := ⟨_, rfl⟩
  have hS : va_S A s.heap H [] := by rw [hH0]; exact va_S.rf
  have hP : va_P D vwCl [(h, oX11 th aw ai ab ac hi re aP ta po en be de fa a5 sp av an ak ne aW aC ag aT aN aF), (aw, .inl (cI, 2179, .inl fw))] H := by rw [hH0]; exact hP
  refine kHeap hH0 ?_
  clear hH0
  refine lv_aload_n hx hb dX11_blue_0 rfl (lv_at hl 0 rfl) ?_
  refine lv_iconst (v := 0) hx hb dX11_blue_1 (by decide) ?_
  refine va_put (D := D) (ci := 10) (v := .int 0) (ty := .int) (C := RX11) (T := TX11) (N := 26) hx hb hts iG_X11 tyX11 tyX11_ok nmX11 hown hK hP hD hS 0 rfl rfl 0 (by decide) (hts _ w6_8) (fun _ h9 => h9) rfl (by decide +kernel) rfl rfl (Nat.le_of_ble_eq_true rfl) dX11_blue_2 (fun H locs hP hD hS => ?_)
  have hP : va_P D vwCl [(h, oX11 0 aw ai ab ac hi re aP ta po en be de fa a5 sp av an ak ne aW aC ag aT aN aF), (aw, .inl (cI, 2179, .inl fw))] H := hP
  have hD : va_D A [(h, oX11 0 aw ai ab ac hi re aP ta po en be de fa a5 sp av an ak ne aW aC ag aT aN aF), (aw, .inl (cI, 2179, .inl fw))] := hD
  refine lv_aload_n hx hb dX11_blue_5 rfl (lv_at hl 0 rfl) ?_
  refine lv_iload_n hx hb dX11_blue_6 rfl (lv_at hl 1 rfl) ?_
  refine lv_iconst (v := (-1)) hx hb dX11_blue_7 (by decide) ?_
  refine lv_iconst (v := 2) hx hb dX11_blue_8 (by decide) ?_
  refine kpurei (wc := []) hP hD hS hA [] rfl (by decide) (fun hPc hDc hFc => va_runS (As := [.int mm, .int (-1), .int 2]) (rest := [.ref h]) ⟨hx, hb, hml, hown, hts⟩ (r_in_m1_2 l D cI cJ cB cC mm H.size) (va_cwS 3 hts gX11_blue_X11_in rfl rfl rfl hdX11_in ⟨Nat.le_of_ble_eq_true rfl, Nat.le_of_ble_eq_true rfl⟩) ⟨kBlind, fun U hU hW => ⟨rfl, by rw [hU], hN.warm hW, hE.pass hS hFc hW hU, by rw [hU]; exact hPc, va_K.moved hW.alike hK, hDc⟩⟩ rfl rfl hl.1 rfl (lv_room (Nat.le_of_ble_eq_true rfl)) dX11_blue_9 ⟨Nat.le_of_ble_eq_true rfl, Nat.le_of_ble_eq_true rfl⟩) (fun r1 u H locs hw hP hS => ?_)
  rcases hw with rfl | ⟨rfl, kc2_0⟩
  · skip
    refine lv_if_eq (tgt := 34) hx hb dX11_blue_12 (by decide) (fun _ => ?_) (fun c4 => absurd (by decide) c4)
    refine lv_iconst (v := 1) hx hb dX11_blue_34 (by decide) ?_
    refine lv_goto (tgt := 39) hx hb dX11_blue_35 (by decide) ?_
    refine lv_iconst (v := 1) hx hb dX11_blue_39 (by decide) ?_
    refine kcalli (wc := [(h, oX11 0 aw ai ab ac hi re aP ta po en be de fa a5 sp av an ak ne aW aC ag aT aN aF)]) (wr := [(aw, .inl (cI, 2179, .inl fw))]) hP hD hS hA [0] [1] rfl rfl (by decide) (by decide) (by decide) (fun hPc hDc hFc => va_runV (As := [.int 1, .int 1]) (rest := []) ⟨hx, hb, hml, hown, hts⟩ (r_throwsIf1_1 l D cI cJ cB cC h 0 aw ai ab ac hi re aP ta po en be de fa a5 sp av an ak ne aW aC ag aT aN aF 1 H.size) (cwV 2 hts gX11_blue_X11_throwsIf rfl rfl rfl ⟨rfl, hdX11_throwsIf⟩ ⟨Nat.le_of_ble_eq_true rfl, Nat.le_of_ble_eq_true rfl⟩) ⟨kBlind, va_recv hK hPc (ci := 10) (q0 := 0) rfl rfl, fun U hU hW => ⟨rfl, by rw [hU], hN.warm hW, hE.pass hS hFc hW hU, by rw [hU]; exact hPc, va_K.moved hW.alike hK, hDc⟩⟩ rfl rfl hl.1 rfl (lv_room (Nat.le_of_ble_eq_true rfl)) dX11_blue_40 ⟨Nat.le_of_ble_eq_true rfl, Nat.le_of_ble_eq_true rfl⟩) (fun r5 u H locs hw hP hD hS => ?_)
    obtain ⟨x6, rfl⟩ : ∃ z, z = u := ⟨_, rfl⟩
    have hP : va_P D vwCl [(aw, .inl (cI, 2179, .inl fw)), (h, oX11 x6 aw ai ab ac hi re aP ta po en be de fa a5 sp av an ak ne aW aC ag aT aN aF)] H := hP
    have hD : va_D A [(aw, .inl (cI, 2179, .inl fw)), (h, oX11 x6 aw ai ab ac hi re aP ta po en be de fa a5 sp av an ak ne aW aC ag aT aN aF)] := hD
    have k7 := hw
    refine lv_if_eq (tgt := 48) hx hb dX11_blue_43 (by decide) (fun c8 => absurd c8 (rg_neq k7 (rg_lit (n := 0) (by decide)) (by decide))) (fun _ => ?_)
    refine lv_iconst (v := 0) hx hb dX11_blue_46 (by decide) ?_
    have hP9 := hP.sub (ws' := [(h, oX11 x6 aw ai ab ac hi re aP ta po en be de fa a5 sp av an ak ne aW aC ag aT aN aF), (aw, .inl (cI, 2179, .inl fw))]) [1, 0] rfl
    have hD9 := hD.sub (ws' := [(h, oX11 x6 aw ai ab ac hi re aP ta po en be de fa a5 sp av an ak ne aW aC ag aT aN aF), (aw, .inl (cI, 2179, .inl fw))]) [1, 0] (by decide) rfl
    exact W.iret (v := 0) hx hb hr (fun t ht hW => ⟨⟨0, (x6), rfl, trivial, by rw [ht]; exact hP9, va_K.moved hW.alike hK, hD9⟩, hS.F ht⟩) hS.2.2 dX11_blue_47
  · skip
    refine k_join (hd := 34) (cells2 := 0) (slots2 := 0) (fun (_ : Unit) => [.ref h]) (fun (_ : Unit) (H : Heap) (locs : List Loc) (ls : Array Slot) => va_P D vwCl [(h, oX11 0 aw ai ab ac hi re aP ta po en be de fa a5 sp av an ak ne aW aC ag aT aN aF), (aw, .inl (cI, 2179, .inl fw))] H ∧ va_D A [(h, oX11 0 aw ai ab ac hi re aP ta po en be de fa a5 sp av an ak ne aW aC ag aT aN aF), (aw, .inl (cI, 2179, .inl fw))] ∧ va_S A s.heap H locs ∧ lv_has ls 7 [(0, .ref h), (1, .int mm), (2, .int b), (3, .int n)]) (fun u H locs ls hI => ?_) (fun hJ34 => ?_)
    · skip
      clear hP hD hS hl
      obtain ⟨hP, hD, hS, hl⟩ := hI
      have hP : va_P D vwCl [(h, oX11 0 aw ai ab ac hi re aP ta po en be de fa a5 sp av an ak ne aW aC ag aT aN aF), (aw, .inl (cI, 2179, .inl fw))] H := hP
      have hD : va_D A [(h, oX11 0 aw ai ab ac hi re aP ta po en be de fa a5 sp av an ak ne aW aC ag aT aN aF), (aw, .inl (cI, 2179, .inl fw))] := hD
      have hl : lv_has ls 7 [(0, .ref h), (1, .int mm), (2, .int b), (3, .int n)] := hl
      show W _ _ _ _ _ _ _ _ _ _ _ _ _ _ _ (F0 m 34 ls [.ref h])
      refine lv_iconst (v := 1) hx hb dX11_blue_34 (by decide) ?_
      refine lv_goto (tgt := 39) hx hb dX11_blue_35 (by decide) ?_
      refine lv_iconst (v := 1) hx hb dX11_blue_39 (by decide) ?_
      refine kcalli (wc := [(h, oX11 0 aw ai ab ac hi re aP ta po en be de fa a5 sp av an ak ne aW aC ag aT aN aF)]) (wr := [(aw, .inl (cI, 2179, .inl fw))]) hP hD hS hA [0] [1] rfl rfl (by decide) (by decide) (by decide) (fun hPc hDc hFc => va_runV (As := [.int 1, .int 1]) (rest := []) ⟨hx, hb, hml, hown, hts⟩ (r_throwsIf1_1 l D cI cJ cB cC h 0 aw ai ab ac hi re aP ta po en be de fa a5 sp av an ak ne aW aC ag aT aN aF 1 H.size) (cwV 2 hts gX11_blue_X11_throwsIf rfl rfl rfl ⟨rfl, hdX11_throwsIf⟩ ⟨Nat.le_of_ble_eq_true rfl, Nat.le_of_ble_eq_true rfl⟩) ⟨kBlind, va_recv hK hPc (ci := 10) (q0 := 0) rfl rfl, fun U hU hW => ⟨rfl, by rw [hU], hN.warm hW, hE.pass hS hFc hW hU, by rw [hU]; exact hPc, va_K.moved hW.alike hK, hDc⟩⟩ rfl rfl hl.1 rfl (lv_room (Nat.le_of_ble_eq_true rfl)) dX11_blue_40 ⟨Nat.le_of_ble_eq_true rfl, Nat.le_of_ble_eq_true rfl⟩) (fun r18 u H locs hw hP hD hS => ?_)
      obtain ⟨x19, rfl⟩ : ∃ z, z = u := ⟨_, rfl⟩
      have hP : va_P D vwCl [(aw, .inl (cI, 2179, .inl fw)), (h, oX11 x19 aw ai ab ac hi re aP ta po en be de fa a5 sp av an ak ne aW aC ag aT aN aF)] H := hP
      have hD : va_D A [(aw, .inl (cI, 2179, .inl fw)), (h, oX11 x19 aw ai ab ac hi re aP ta po en be de fa a5 sp av an ak ne aW aC ag aT aN aF)] := hD
      have k20 := hw
      refine lv_if_eq (tgt := 48) hx hb dX11_blue_43 (by decide) (fun c21 => absurd c21 (rg_neq k20 (rg_lit (n := 0) (by decide)) (by decide))) (fun _ => ?_)
      refine lv_iconst (v := 0) hx hb dX11_blue_46 (by decide) ?_
      have hP9 := hP.sub (ws' := [(h, oX11 x19 aw ai ab ac hi re aP ta po en be de fa a5 sp av an ak ne aW aC ag aT aN aF), (aw, .inl (cI, 2179, .inl fw))]) [1, 0] rfl
      have hD9 := hD.sub (ws' := [(h, oX11 x19 aw ai ab ac hi re aP ta po en be de fa a5 sp av an ak ne aW aC ag aT aN aF), (aw, .inl (cI, 2179, .inl fw))]) [1, 0] (by decide) rfl
      exact W.iret (v := 0) hx hb hr (fun t ht hW => ⟨⟨0, (x19), rfl, trivial, by rw [ht]; exact hP9, va_K.moved hW.alike hK, hD9⟩, hS.F ht⟩) hS.2.2 dX11_blue_47
    refine lv_if_eq (tgt := 34) hx hb dX11_blue_12 (by decide) (fun c22 => absurd c22 (by decide)) (fun _ => ?_)
    refine lv_iload_n hx hb dX11_blue_15 rfl (lv_at hl 2 rfl) ?_
    refine lv_iconst (v := (-1)) hx hb dX11_blue_16 (by decide) ?_
    refine lv_iconst (v := 2) hx hb dX11_blue_17 (by decide) ?_
    refine kpurei (wc := []) hP hD hS hA [] rfl (by decide) (fun hPc hDc hFc => va_runS (As := [.int b, .int (-1), .int 2]) (rest := [.ref h]) ⟨hx, hb, hml, hown, hts⟩ (r_in_m1_2 l D cI cJ cB cC b H.size) (va_cwS 3 hts gX11_blue_X11_in rfl rfl rfl hdX11_in ⟨Nat.le_of_ble_eq_true rfl, Nat.le_of_ble_eq_true rfl⟩) ⟨kBlind, fun U hU hW => ⟨rfl, by rw [hU], hN.warm hW, hE.pass hS hFc hW hU, by rw [hU]; exact hPc, va_K.moved hW.alike hK, hDc⟩⟩ rfl rfl hl.1 rfl (lv_room (Nat.le_of_ble_eq_true rfl)) dX11_blue_18 ⟨Nat.le_of_ble_eq_true rfl, Nat.le_of_ble_eq_true rfl⟩) (fun r23 u H locs hw hP hS => ?_)
    rcases hw with rfl | ⟨rfl, kc24_0⟩
    · skip
      refine lv_if_eq (tgt := 34) hx hb dX11_blue_21 (by decide) (fun _ => ?_) (fun c25 => absurd (by decide) c25)
      exact hJ34 () _ _ _ ⟨hP.sub (ws' := [(h, oX11 0 aw ai ab ac hi re aP ta po en be de fa a5 sp av an ak ne aW aC ag aT aN aF), (aw, .inl (cI, 2179, .inl fw))]) [0, 1] rfl, hD.sub (ws' := [(h, oX11 0 aw ai ab ac hi re aP ta po en be de fa a5 sp av an ak ne aW aC ag aT aN aF), (aw, .inl (cI, 2179, .inl fw))]) [0, 1] (by decide) rfl, hS, lv_sub (l' := [(0, .ref h), (1, .int mm), (2, .int b), (3, .int n)]) hl [0, 1, 2, 3] rfl⟩
    · skip
      refine lv_if_eq (tgt := 34) hx hb dX11_blue_21 (by decide) (fun c26 => absurd c26 (by decide)) (fun _ => ?_)
      refine lv_iload_n hx hb dX11_blue_24 rfl (lv_at hl 3 rfl) ?_
      refine lv_iconst (v := 1) hx hb dX11_blue_25 (by decide) ?_
      refine lv_bipush (v := 9) hx hb dX11_blue_26 (by decide) ?_
      refine kpurei (wc := []) hP hD hS hA [] rfl (by decide) (fun hPc hDc hFc => va_runS (As := [.int n, .int 1, .int 9]) (rest := [.ref h]) ⟨hx, hb, hml, hown, hts⟩ (r_in_1_9 l D cI cJ cB cC n H.size) (va_cwS 3 hts gX11_blue_X11_in rfl rfl rfl hdX11_in ⟨Nat.le_of_ble_eq_true rfl, Nat.le_of_ble_eq_true rfl⟩) ⟨kBlind, fun U hU hW => ⟨rfl, by rw [hU], hN.warm hW, hE.pass hS hFc hW hU, by rw [hU]; exact hPc, va_K.moved hW.alike hK, hDc⟩⟩ rfl rfl hl.1 rfl (lv_room (Nat.le_of_ble_eq_true rfl)) dX11_blue_28 ⟨Nat.le_of_ble_eq_true rfl, Nat.le_of_ble_eq_true rfl⟩) (fun r27 u H locs hw hP hS => ?_)
      rcases hw with rfl | ⟨rfl, kc28_0⟩
      · skip
        refine lv_if_ne (tgt := 38) hx hb dX11_blue_31 (by decide) (fun c29 => absurd (by decide) c29) (fun _ => ?_)
        exact hJ34 () _ _ _ ⟨hP.sub (ws' := [(h, oX11 0 aw ai ab ac hi re aP ta po en be de fa a5 sp av an ak ne aW aC ag aT aN aF), (aw, .inl (cI, 2179, .inl fw))]) [0, 1] rfl, hD.sub (ws' := [(h, oX11 0 aw ai ab ac hi re aP ta po en be de fa a5 sp av an ak ne aW aC ag aT aN aF), (aw, .inl (cI, 2179, .inl fw))]) [0, 1] (by decide) rfl, hS, lv_sub (l' := [(0, .ref h), (1, .int mm), (2, .int b), (3, .int n)]) hl [0, 1, 2, 3] rfl⟩
      · skip
        refine lv_if_ne (tgt := 38) hx hb dX11_blue_31 (by decide) (fun _ => ?_) (fun c30 => absurd c30 (by decide))
        refine lv_iconst (v := 0) hx hb dX11_blue_38 (by decide) ?_
        refine lv_iconst (v := 1) hx hb dX11_blue_39 (by decide) ?_
        refine kpurei (wc := [(h, oX11 0 aw ai ab ac hi re aP ta po en be de fa a5 sp av an ak ne aW aC ag aT aN aF)]) hP hD hS hA [0] rfl (by decide) (fun hPc hDc hFc => va_runV (As := [.int 0, .int 1]) (rest := []) ⟨hx, hb, hml, hown, hts⟩ (r_throwsIf0_1 l D cI cJ cB cC h 0 aw ai ab ac hi re aP ta po en be de fa a5 sp av an ak ne aW aC ag aT aN aF 1 H.size) (cwV 2 hts gX11_blue_X11_throwsIf rfl rfl rfl ⟨rfl, hdX11_throwsIf⟩ ⟨Nat.le_of_ble_eq_true rfl, Nat.le_of_ble_eq_true rfl⟩) ⟨kBlind, va_recv hK hPc (ci := 10) (q0 := 0) rfl rfl, fun U hU hW => ⟨rfl, by rw [hU], hN.warm hW, hE.pass hS hFc hW hU, by rw [hU]; exact hPc, va_K.moved hW.alike hK, hDc⟩⟩ rfl rfl hl.1 rfl (lv_room (Nat.le_of_ble_eq_true rfl)) dX11_blue_40 ⟨Nat.le_of_ble_eq_true rfl, Nat.le_of_ble_eq_true rfl⟩) (fun r31 u H locs hw hP hS => ?_)
        have k32 := hw
        refine lv_if_eq (tgt := 48) hx hb dX11_blue_43 (by decide) (fun _ => ?_) (fun c33 => absurd (rg_eq k32 (rg_lit (n := 0) (by decide)) (by decide)) c33)
        refine lv_ldc2 (v := 1000000000) hx hb hown (hts _ w50_20) dX11_blue_48 ?_
        refine lv_lstore (lv' := [(4, .long 1000000000), (0, .ref h), (1, .int mm), (2, .int b), (3, .int n)]) hx hb dX11_blue_51 hl (by decide) rfl (fun ls hl => ?_)
        refine lv_iconst (v := 0) hx hb dX11_blue_53 (by decide) ?_
        refine lv_istore (lv' := [(6, .int 0), (4, .long 1000000000), (0, .ref h), (1, .int mm), (2, .int b), (3, .int n)]) hx hb dX11_blue_54 hl (by decide) rfl (fun ls hl => ?_)
        refine k_loop (hd := 56) (fun (u : Int32 × Int64) => match u with | (y428, y429) => (9 - (y428).toInt).toNat) (fun (u : Int32 × Int64) (H : Heap) (locs : List Loc) (ls : Array Slot) => match u with | (y428, y429) => Rg y428 0 9 ∧ va_P D vwCl [(h, oX11 0 aw ai ab ac hi re aP ta po en be de fa a5 sp av an ak ne aW aC ag aT aN aF), (aw, .inl (cI, 2179, .inl fw))] H ∧ va_D A [(h, oX11 0 aw ai ab ac hi re aP ta po en be de fa a5 sp av an ak ne aW aC ag aT aN aF), (aw, .inl (cI, 2179, .inl fw))] ∧ va_S A s.heap H locs ∧ lv_has ls 7 [(6, .int y428), (4, .long y429), (0, .ref h), (1, .int mm), (2, .int b), (3, .int n)]) ((0 : Int32), (1000000000 : Int64)) ⟨(rg_w (rg_lit (n := 0) (by decide)) (by decide)), hP.sub (ws' := [(h, oX11 0 aw ai ab ac hi re aP ta po en be de fa a5 sp av an ak ne aW aC ag aT aN aF), (aw, .inl (cI, 2179, .inl fw))]) [0, 1] rfl, hD.sub (ws' := [(h, oX11 0 aw ai ab ac hi re aP ta po en be de fa a5 sp av an ak ne aW aC ag aT aN aF), (aw, .inl (cI, 2179, .inl fw))]) [0, 1] (by decide) rfl, hS, lv_sub (l' := [(6, .int 0), (4, .long 1000000000), (0, .ref h), (1, .int mm), (2, .int b), (3, .int n)]) hl [0, 1, 2, 3, 4, 5] rfl⟩ (fun u H locs ls hI ih430 => ?_)
        clear hP hD hS hl
        obtain ⟨y428, y429⟩ := u
        obtain ⟨hy428, hP, hD, hS, hl⟩ := hI
        have hP : va_P D vwCl [(h, oX11 0 aw ai ab ac hi re aP ta po en be de fa a5 sp av an ak ne aW aC ag aT aN aF), (aw, .inl (cI, 2179, .inl fw))] H := hP
        have hD : va_D A [(h, oX11 0 aw ai ab ac hi re aP ta po en be de fa a5 sp av an ak ne aW aC ag aT aN aF), (aw, .inl (cI, 2179, .inl fw))] := hD
        have hl : lv_has ls 7 [(6, .int y428), (4, .long y429), (0, .ref h), (1, .int mm), (2, .int b), (3, .int n)] := hl
        refine lv_iload hx hb dX11_blue_56 (lv_at hl 0 rfl) ?_
        refine lv_iload_n hx hb dX11_blue_58 rfl (lv_at hl 5 rfl) ?_
        refine lv_icmp_ge (tgt := 126) hx hb dX11_blue_59 (by decide) (fun c431 => ?_) (fun c431 => ?_)
        · skip
          have k432 : Rg y428 1 9 := rg_e2 (leI c431) kc28_0 hy428 (by decide)
          refine lv_lload hx hb dX11_blue_126 (lv_at hl 1 rfl) ?_
          refine lv_l2i hx hb dX11_blue_128 rfl ?_
          refine lv_topi (fun x433 ex433 => ?_)
          clear ex433
          have hP9 := hP.sub (ws' := [(h, oX11 0 aw ai ab ac hi re aP ta po en be de fa a5 sp av an ak ne aW aC ag aT aN aF), (aw, .inl (cI, 2179, .inl fw))]) [0, 1] rfl
          have hD9 := hD.sub (ws' := [(h, oX11 0 aw ai ab ac hi re aP ta po en be de fa a5 sp av an ak ne aW aC ag aT aN aF), (aw, .inl (cI, 2179, .inl fw))]) [0, 1] (by decide) rfl
          exact W.iret (v := x433) hx hb hr (fun t ht hW => ⟨⟨x433, ((0 : Int32)), rfl, trivial, by rw [ht]; exact hP9, va_K.moved hW.alike hK, hD9⟩, hS.F ht⟩) hS.2.2 dX11_blue_129
        · skip
          have k434 : Rg y428 0 8 := rg_l1 (nleI c431) hy428 kc28_0 (by decide)
          refine lv_iload_n hx hb dX11_blue_62 rfl (lv_at hl 3 rfl) ?_
          refine k_join (hd := 89) (cells2 := 0) (slots2 := 0) (fun (z444 : Int64) => [.long z444]) (fun (z444 : Int64) (H : Heap) (locs : List Loc) (ls : Array Slot) => va_P D vwCl [(h, oX11 0 aw ai ab ac hi re aP ta po en be de fa a5 sp av an ak ne aW aC ag aT aN aF), (aw, .inl (cI, 2179, .inl fw))] H ∧ va_D A [(h, oX11 0 aw ai ab ac hi re aP ta po en be de fa a5 sp av an ak ne aW aC ag aT aN aF), (aw, .inl (cI, 2179, .inl fw))] ∧ va_S A s.heap H locs ∧ lv_has ls 7 [(6, .int y428), (4, .long y429), (0, .ref h), (1, .int mm), (2, .int b), (3, .int n)]) (fun u H locs ls hI => ?_) (fun hJ89 => ?_)
          · skip
            clear hP hD hS hl
            obtain ⟨z444, rfl⟩ : ∃ z, z = u := ⟨_, rfl⟩
            obtain ⟨hP, hD, hS, hl⟩ := hI
            have hP : va_P D vwCl [(h, oX11 0 aw ai ab ac hi re aP ta po en be de fa a5 sp av an ak ne aW aC ag aT aN aF), (aw, .inl (cI, 2179, .inl fw))] H := hP
            have hD : va_D A [(h, oX11 0 aw ai ab ac hi re aP ta po en be de fa a5 sp av an ak ne aW aC ag aT aN aF), (aw, .inl (cI, 2179, .inl fw))] := hD
            have hl : lv_has ls 7 [(6, .int y428), (4, .long y429), (0, .ref h), (1, .int mm), (2, .int b), (3, .int n)] := hl
            show W _ _ _ _ _ _ _ _ _ _ _ _ _ _ _ (F0 m 89 ls [.long z444])
            refine lv_lstore (lv' := [(4, .long z444), (6, .int y428), (0, .ref h), (1, .int mm), (2, .int b), (3, .int n)]) hx hb dX11_blue_89 hl (by decide) rfl (fun ls hl => ?_)
            refine lv_iload_n hx hb dX11_blue_91 rfl (lv_at hl 4 rfl) ?_
            refine k_join (hd := 118) (cells2 := 0) (slots2 := 0) (fun (z454 : Int64) => [.long z454]) (fun (z454 : Int64) (H : Heap) (locs : List Loc) (ls : Array Slot) => va_P D vwCl [(h, oX11 0 aw ai ab ac hi re aP ta po en be de fa a5 sp av an ak ne aW aC ag aT aN aF), (aw, .inl (cI, 2179, .inl fw))] H ∧ va_D A [(h, oX11 0 aw ai ab ac hi re aP ta po en be de fa a5 sp av an ak ne aW aC ag aT aN aF), (aw, .inl (cI, 2179, .inl fw))] ∧ va_S A s.heap H locs ∧ lv_has ls 7 [(4, .long z444), (6, .int y428), (0, .ref h), (1, .int mm), (2, .int b), (3, .int n)]) (fun u H locs ls hI => ?_) (fun hJ118 => ?_)
            · skip
              clear hP hD hS hl
              obtain ⟨z454, rfl⟩ : ∃ z, z = u := ⟨_, rfl⟩
              obtain ⟨hP, hD, hS, hl⟩ := hI
              have hP : va_P D vwCl [(h, oX11 0 aw ai ab ac hi re aP ta po en be de fa a5 sp av an ak ne aW aC ag aT aN aF), (aw, .inl (cI, 2179, .inl fw))] H := hP
              have hD : va_D A [(h, oX11 0 aw ai ab ac hi re aP ta po en be de fa a5 sp av an ak ne aW aC ag aT aN aF), (aw, .inl (cI, 2179, .inl fw))] := hD
              have hl : lv_has ls 7 [(4, .long z444), (6, .int y428), (0, .ref h), (1, .int mm), (2, .int b), (3, .int n)] := hl
              show W _ _ _ _ _ _ _ _ _ _ _ _ _ _ _ (F0 m 118 ls [.long z454])
              refine lv_lstore (lv' := [(4, .long z454), (6, .int y428), (0, .ref h), (1, .int mm), (2, .int b), (3, .int n)]) hx hb dX11_blue_118 hl (by decide) rfl (fun ls hl => ?_)
              obtain ⟨x455, ex455⟩ : ∃ y : Int32, y = y428 + 1 := ⟨_, rfl⟩
              refine lv_iinc (v := x455) (lv' := [(6, .int x455), (4, .long z454), (0, .ref h), (1, .int mm), (2, .int b), (3, .int n)]) hx hb dX11_blue_120 hl (k := 1) rfl (by rw [ex455]; rfl) (by decide) rfl (fun ls hl => ?_)
              have k456 : Rg x455 1 9 := rg_add ex455 k434 (rg_lit (n := 1) (by decide)) (by decide)
              refine lv_goto (tgt := 56) hx hb dX11_blue_123 (by decide) ?_
              exact ih430 (x455, z454) _ _ _ (by show (9 - (x455).toInt).toNat < (9 - (y428).toInt).toNat; exact mu_up ex455 k434 k456 (by decide)) ⟨(rg_w k456 (by decide)), hP.sub (ws' := [(h, oX11 0 aw ai ab ac hi re aP ta po en be de fa a5 sp av an ak ne aW aC ag aT aN aF), (aw, .inl (cI, 2179, .inl fw))]) [0, 1] rfl, hD.sub (ws' := [(h, oX11 0 aw ai ab ac hi re aP ta po en be de fa a5 sp av an ak ne aW aC ag aT aN aF), (aw, .inl (cI, 2179, .inl fw))]) [0, 1] (by decide) rfl, hS, lv_sub (l' := [(6, .int x455), (4, .long z454), (0, .ref h), (1, .int mm), (2, .int b), (3, .int n)]) hl [0, 1, 2, 3, 4, 5] rfl⟩
            refine lv_if_le (tgt := 116) hx hb dX11_blue_92 (by decide) (fun c457 => ?_) (fun c457 => ?_)
            · skip
              have k458 : Rg b (-1) 0 := rg_e1 (leI c457) kc24_0 (rg_lit (n := 0) (by decide)) (by decide)
              refine lv_lload hx hb dX11_blue_116 (lv_at hl 0 rfl) ?_
              exact hJ118 (z444) _ _ _ ⟨hP.sub (ws' := [(h, oX11 0 aw ai ab ac hi re aP ta po en be de fa a5 sp av an ak ne aW aC ag aT aN aF), (aw, .inl (cI, 2179, .inl fw))]) [0, 1] rfl, hD.sub (ws' := [(h, oX11 0 aw ai ab ac hi re aP ta po en be de fa a5 sp av an ak ne aW aC ag aT aN aF), (aw, .inl (cI, 2179, .inl fw))]) [0, 1] (by decide) rfl, hS, lv_sub (l' := [(4, .long z444), (6, .int y428), (0, .ref h), (1, .int mm), (2, .int b), (3, .int n)]) hl [0, 1, 2, 3, 4, 5] rfl⟩
            · skip
              have k459 : Rg b 1 2 := rg_l2 (nleI c457) (rg_lit (n := 0) (by decide)) kc24_0 (by decide)
              refine lv_lload hx hb dX11_blue_95 (lv_at hl 0 rfl) ?_
              refine lv_bipush (v := 100) hx hb dX11_blue_97 (by decide) ?_
              refine lv_aload_n hx hb dX11_blue_99 rfl (lv_at hl 2 rfl) ?_
              refine va_get (D := D) (ci := 10) (v := .ref aw) (C := RX11) (T := TX11) (N := 26) hx hb hts iG_X11 hown hK hP 0 rfl rfl 1 (by decide) (hts _ w5_3) (fun _ h9 => h9) rfl dX11_blue_100 ?_
              refine lv_bipush (v := 8) hx hb dX11_blue_103 (by decide) ?_
              refine va_iald hx hb hK hP 1 0 rfl rfl (rg_in (rg_lit (n := 8) (by decide)) (by decide)) dX11_blue_105 ?_
              refine lv_topi (fun x460 ex460 => ?_)
              clear ex460
              refine lv_isub hx hb dX11_blue_106 ?_
              refine lv_topi (fun x461 ex461 => ?_)
              clear ex461
              refine lv_i2l hx hb dX11_blue_107 rfl ?_
              refine lv_topl (fun x462 ex462 => ?_)
              clear ex462
              refine lv_lmul hx hb dX11_blue_108 ?_
              refine lv_topl (fun x463 ex463 => ?_)
              clear ex463
              refine lv_ldc2 (v := 100) hx hb hown (hts _ w50_21) dX11_blue_109 ?_
              refine lv_ldiv hx hb dX11_blue_112 (by decide) ?_
              refine lv_topl (fun x464 ex464 => ?_)
              clear ex464
              refine lv_goto (tgt := 118) hx hb dX11_blue_113 (by decide) ?_
              exact hJ118 (x464) _ _ _ ⟨hP.sub (ws' := [(h, oX11 0 aw ai ab ac hi re aP ta po en be de fa a5 sp av an ak ne aW aC ag aT aN aF), (aw, .inl (cI, 2179, .inl fw))]) [0, 1] rfl, hD.sub (ws' := [(h, oX11 0 aw ai ab ac hi re aP ta po en be de fa a5 sp av an ak ne aW aC ag aT aN aF), (aw, .inl (cI, 2179, .inl fw))]) [0, 1] (by decide) rfl, hS, lv_sub (l' := [(4, .long z444), (6, .int y428), (0, .ref h), (1, .int mm), (2, .int b), (3, .int n)]) hl [0, 1, 2, 3, 4, 5] rfl⟩
          refine lv_if_le (tgt := 87) hx hb dX11_blue_63 (by decide) (fun c465 => ?_) (fun c465 => ?_)
          · skip
            have k466 : Rg mm (-1) 0 := rg_e1 (leI c465) kc2_0 (rg_lit (n := 0) (by decide)) (by decide)
            refine lv_lload hx hb dX11_blue_87 (lv_at hl 1 rfl) ?_
            exact hJ89 (y429) _ _ _ ⟨hP.sub (ws' := [(h, oX11 0 aw ai ab ac hi re aP ta po en be de fa a5 sp av an ak ne aW aC ag aT aN aF), (aw, .inl (cI, 2179, .inl fw))]) [0, 1] rfl, hD.sub (ws' := [(h, oX11 0 aw ai ab ac hi re aP ta po en be de fa a5 sp av an ak ne aW aC ag aT aN aF), (aw, .inl (cI, 2179, .inl fw))]) [0, 1] (by decide) rfl, hS, lv_sub (l' := [(6, .int y428), (4, .long y429), (0, .ref h), (1, .int mm), (2, .int b), (3, .int n)]) hl [0, 1, 2, 3, 4, 5] rfl⟩
          · skip
            have k467 : Rg mm 1 2 := rg_l2 (nleI c465) (rg_lit (n := 0) (by decide)) kc2_0 (by decide)
            refine lv_lload hx hb dX11_blue_66 (lv_at hl 1 rfl) ?_
            refine lv_bipush (v := 100) hx hb dX11_blue_68 (by decide) ?_
            refine lv_aload_n hx hb dX11_blue_70 rfl (lv_at hl 2 rfl) ?_
            refine va_get (D := D) (ci := 10) (v := .ref aw) (C := RX11) (T := TX11) (N := 26) hx hb hts iG_X11 hown hK hP 0 rfl rfl 1 (by decide) (hts _ w5_3) (fun _ h9 => h9) rfl dX11_blue_71 ?_
            refine lv_bipush (v := 8) hx hb dX11_blue_74 (by decide) ?_
            refine va_iald hx hb hK hP 1 0 rfl rfl (rg_in (rg_lit (n := 8) (by decide)) (by decide)) dX11_blue_76 ?_
            refine lv_topi (fun x468 ex468 => ?_)
            clear ex468
            refine lv_isub hx hb dX11_blue_77 ?_
            refine lv_topi (fun x469 ex469 => ?_)
            clear ex469
            refine lv_i2l hx hb dX11_blue_78 rfl ?_
            refine lv_topl (fun x470 ex470 => ?_)
            clear ex470
            refine lv_lmul hx hb dX11_blue_79 ?_
            refine lv_topl (fun x471 ex471 => ?_)
            clear ex471
            refine lv_ldc2 (v := 100) hx hb hown (hts _ w50_21) dX11_blue_80 ?_
            refine lv_ldiv hx hb dX11_blue_83 (by decide) ?_
            refine lv_topl (fun x472 ex472 => ?_)
            clear ex472
            refine lv_goto (tgt := 89) hx hb dX11_blue_84 (by decide) ?_
            exact hJ89 (x472) _ _ _ ⟨hP.sub (ws' := [(h, oX11 0 aw ai ab ac hi re aP ta po en be de fa a5 sp av an ak ne aW aC ag aT aN aF), (aw, .inl (cI, 2179, .inl fw))]) [0, 1] rfl, hD.sub (ws' := [(h, oX11 0 aw ai ab ac hi re aP ta po en be de fa a5 sp av an ak ne aW aC ag aT aN aF), (aw, .inl (cI, 2179, .inl fw))]) [0, 1] (by decide) rfl, hS, lv_sub (l' := [(6, .int y428), (4, .long y429), (0, .ref h), (1, .int mm), (2, .int b), (3, .int n)]) hl [0, 1, 2, 3, 4, 5] rfl⟩

def kwX11_seed : List Cond := .code yX11_seed cX11_seed 3 (some .int) :: kG
theorem hdX11_seed : yX11_seed.cls ≠ "java/lang/invoke/MethodHandle" ∧ yX11_seed.cls ≠ "java/lang/invoke/VarHandle" ∧ (parseMethodDescriptor yX11_seed.desc).map (fun d => d.parameters.length) = some 1 := by decide +kernel
theorem dX11_seed_0 : decode cX11_seed 0 = .ok (.aload_n 0, 1) := by decide +kernel
theorem dX11_seed_1 : decode cX11_seed 1 = .ok (.iconst 0, 1) := by decide +kernel
theorem dX11_seed_2 : decode cX11_seed 2 = .ok (.putfield 3, 3) := by decide +kernel
theorem dX11_seed_5 : decode cX11_seed 5 = .ok (.aload_n 0, 1) := by decide +kernel
theorem dX11_seed_6 : decode cX11_seed 6 = .ok (.getfield 13, 3) := by decide +kernel
theorem dX11_seed_9 : decode cX11_seed 9 = .ok (.bipush 9, 2) := by decide +kernel
theorem dX11_seed_11 : decode cX11_seed 11 = .ok (.iaload, 1) := by decide +kernel
theorem dX11_seed_12 : decode cX11_seed 12 = .ok (.istore_n 2, 1) := by decide +kernel
theorem dX11_seed_13 : decode cX11_seed 13 = .ok (.aload_n 0, 1) := by decide +kernel
theorem dX11_seed_14 : decode cX11_seed 14 = .ok (.getfield 13, 3) := by decide +kernel
theorem dX11_seed_17 : decode cX11_seed 17 = .ok (.bipush 9, 2) := by decide +kernel
theorem dX11_seed_19 : decode cX11_seed 19 = .ok (.iload_n 1, 1) := by decide +kernel
theorem dX11_seed_20 : decode cX11_seed 20 = .ok (.iastore, 1) := by decide +kernel
theorem dX11_seed_21 : decode cX11_seed 21 = .ok (.iload_n 2, 1) := by decide +kernel
theorem dX11_seed_22 : decode cX11_seed 22 = .ok (.ireturn, 1) := by decide +kernel
set_option maxHeartbeats 4000000 in
set_option maxRecDepth 100000 in
/-- reference: seed -/
theorem r_seed (l : Launch) (D : va_G) (cI cJ cB cC : ClassId) (h : Nat) (th : Int32) (aw : Nat) (ai : Nat) (ab : Nat) (ac : Nat) (hi : Int32) (re : Int32) (aP : Nat) (ta : Int32) (po : Int32) (en : Int32) (be : Int32) (de : Int32) (fa : Int32) (a5 : Nat) (sp : Int32) (av : Nat) (an : Nat) (ak : Nat) (ne : Int32) (aW : Nat) (aC : Nat) (ag : Nat) (aT : Nat) (aN : Nat) (aF : Nat) (fw : Nat → Int32) (n : Int32) (sz : Nat) (H_fw_W : wW fw) (H_fw_B : wB fw) (H_fw_L : wL fw) : Met l yX11_seed kwX11_seed ({ frames := 0, cells := 0, slots := 0, locals := 0 } : Room) (kPre D (kT cI cJ cB cC) sz [(h, oX11 th aw ai ab ac hi re aP ta po en be de fa a5 sp av an ak ne aW aC ag aT aN aF), (aw, .inl (cI, 2179, .inl fw))] [.ref h, .int n]) (va_Qi (fun (r : Int32) (f0_ : (Nat → Int32)) => wB f0_ ∧ wL f0_ ∧ wW f0_) (fun (f0_ : (Nat → Int32)) (t : State) => kB D (kT cI cJ cB cC) (va_A [(h, oX11 th aw ai ab ac hi re aP ta po en be de fa a5 sp av an ak ne aW aC ag aT aN aF), (aw, .inl (cI, 2179, .inl fw))] sz) [(h, oX11 0 aw ai ab ac hi re aP ta po en be de fa a5 sp av an ak ne aW aC ag aT aN aF), (aw, .inl (cI, 2179, .inl f0_))] t) (va_A [(h, oX11 th aw ai ab ac hi re aP ta po en be de fa a5 sp av an ak ne aW aC ag aT aN aF), (aw, .inl (cI, 2179, .inl fw))] sz)) 0 0 (va_A [(h, oX11 th aw ai ab ac hi re aP ta po en be de fa a5 sp av an ak ne aW aC ag aT aN aF), (aw, .inl (cI, 2179, .inl fw))] sz) := by
  refine Met.ofW (cc := cX11_seed) (maxL := 3) (ret := (some .int)) (by decide) rfl ?_
  intro p e s m args below meth c s₁ B hml hv
  obtain ⟨rfl, hsz, hN, hE, hP, hK, hD0⟩ := hv
  have hx := B.exec
  have hb := B.bytes
  have hr := B.returns
  have hts := fun (w : Cond) (h : w ∈ kG) => atoms_spec (ws := kwX11_seed) B.pre w (List.mem_cons_of_mem _ h)
  have hown : s.vm.findClass RX11 = some m.cls := findClass_of_methodNamed B.named
  subst hsz
  have hD := hD0.self (sz := s.heap.size)
  generalize hAe : va_A [(h, oX11 th aw ai ab ac hi re aP ta po en be de fa a5 sp av an ak ne aW aC ag aT aN aF), (aw, .inl (cI, 2179, .inl fw))] s.heap.size = A at hD hE ⊢
  have hA : ∀ q : Nat, s.heap.size ≤ q → A q := fun q h => by rw [← hAe]; exact Or.inr h
  have hl := lv_entry ([.ref h, .int n]) (n := 3) (Nat.le_of_ble_eq_true rfl)
  rw [lg_entry_eq]
  generalize (lg_sl ([.ref h, .int n]) ++ List.replicate (3 - (lg_sl ([.ref h, .int n])).length) Slot.unset).toArray = ls at hl ⊢
  have hl : lv_has ls 3 [(0, .ref h), (1, .int n)] := hl
  obtain ⟨H, hH0⟩ : ∃ H, H = s.heap := ⟨_, rfl⟩
  have hS : va_S A s.heap H [] := by rw [hH0]; exact va_S.rf
  have hP : va_P D vwCl [(h, oX11 th aw ai ab ac hi re aP ta po en be de fa a5 sp av an ak ne aW aC ag aT aN aF), (aw, .inl (cI, 2179, .inl fw))] H := by rw [hH0]; exact hP
  refine kHeap hH0 ?_
  clear hH0
  refine lv_aload_n hx hb dX11_seed_0 rfl (lv_at hl 0 rfl) ?_
  refine lv_iconst (v := 0) hx hb dX11_seed_1 (by decide) ?_
  refine va_put (D := D) (ci := 10) (v := .int 0) (ty := .int) (C := RX11) (T := TX11) (N := 26) hx hb hts iG_X11 tyX11 tyX11_ok nmX11 hown hK hP hD hS 0 rfl rfl 0 (by decide) (hts _ w6_8) (fun _ h9 => h9) rfl (by decide +kernel) rfl rfl (Nat.le_of_ble_eq_true rfl) dX11_seed_2 (fun H locs hP hD hS => ?_)
  have hP : va_P D vwCl [(h, oX11 0 aw ai ab ac hi re aP ta po en be de fa a5 sp av an ak ne aW aC ag aT aN aF), (aw, .inl (cI, 2179, .inl fw))] H := hP
  have hD : va_D A [(h, oX11 0 aw ai ab ac hi re aP ta po en be de fa a5 sp av an ak ne aW aC ag aT aN aF), (aw, .inl (cI, 2179, .inl fw))] := hD
  refine lv_aload_n hx hb dX11_seed_5 rfl (lv_at hl 0 rfl) ?_
  refine va_get (D := D) (ci := 10) (v := .ref aw) (C := RX11) (T := TX11) (N := 26) hx hb hts iG_X11 hown hK hP 0 rfl rfl 1 (by decide) (hts _ w5_3) (fun _ h9 => h9) rfl dX11_seed_6 ?_
  refine lv_bipush (v := 9) hx hb dX11_seed_9 (by decide) ?_
  refine va_iald hx hb hK hP 1 0 rfl rfl (rg_in (rg_lit (n := 9) (by decide)) (by decide)) dX11_seed_11 ?_
  refine lv_topi (fun x1 ex1 => ?_)
  clear ex1
  refine lv_istore_n (lv' := [(2, .int x1), (0, .ref h), (1, .int n)]) hx hb dX11_seed_12 rfl hl (by decide) rfl (fun ls hl => ?_)
  refine lv_aload_n hx hb dX11_seed_13 rfl (lv_at hl 1 rfl) ?_
  refine va_get (D := D) (ci := 10) (v := .ref aw) (C := RX11) (T := TX11) (N := 26) hx hb hts iG_X11 hown hK hP 0 rfl rfl 1 (by decide) (hts _ w5_3) (fun _ h9 => h9) rfl dX11_seed_14 ?_
  refine lv_bipush (v := 9) hx hb dX11_seed_17 (by decide) ?_
  refine lv_iload_n hx hb dX11_seed_19 rfl (lv_at hl 2 rfl) ?_
  refine va_iast hx hb hK hP hD hS 1 0 rfl rfl (rg_in (rg_lit (n := 9) (by decide)) (by decide)) dX11_seed_20 (fun H locs hP hD hS => ?_)
  have hP : va_P D vwCl [(h, oX11 0 aw ai ab ac hi re aP ta po en be de fa a5 sp av an ak ne aW aC ag aT aN aF), (aw, .inl (cI, 2179, .inl (upd fw (9 : Int32).toNatClampNeg n)))] H := hP
  have hD : va_D A [(h, oX11 0 aw ai ab ac hi re aP ta po en be de fa a5 sp av an ak ne aW aC ag aT aN aF), (aw, .inl (cI, 2179, .inl (upd fw (9 : Int32).toNatClampNeg n)))] := hD
  have k3 : wW (upd fw (9 : Int32).toNatClampNeg n) := wW_lo H_fw_W (rg_lit (n := 9) (by decide)) (by decide)
  have k4 : wB (upd fw (9 : Int32).toNatClampNeg n) := wB_lo H_fw_B H_fw_W (rg_lit (n := 9) (by decide)) (by decide)
  have k5 : wL (upd fw (9 : Int32).toNatClampNeg n) := wL_out H_fw_L (rg_lit (n := 9) (by decide)) (by decide)
  generalize hge : (upd fw (9 : Int32).toNatClampNeg n) = g2 at hP hD k3 k4 k5
  clear hge
  refine lv_iload_n hx hb dX11_seed_21 rfl (lv_at hl 0 rfl) ?_
  have hP9 := hP.sub (ws' := [(h, oX11 0 aw ai ab ac hi re aP ta po en be de fa a5 sp av an ak ne aW aC ag aT aN aF), (aw, .inl (cI, 2179, .inl g2))]) [0, 1] rfl
  have hD9 := hD.sub (ws' := [(h, oX11 0 aw ai ab ac hi re aP ta po en be de fa a5 sp av an ak ne aW aC ag aT aN aF), (aw, .inl (cI, 2179, .inl g2))]) [0, 1] (by decide) rfl
  exact W.iret (v := x1) hx hb hr (fun t ht hW => ⟨⟨x1, (g2), rfl, ⟨k4, k5, k3⟩, by rw [ht]; exact hP9, va_K.moved hW.alike hK, hD9⟩, hS.F ht⟩) hS.2.2 dX11_seed_22

