def kwX0_shirtWithButton : List Cond := .code yX0_shirtWithButton cX0_shirtWithButton 3 (some .int) :: kG
theorem hdX0_shirtWithButton : yX0_shirtWithButton.cls ≠ "java/lang/invoke/MethodHandle" ∧ yX0_shirtWithButton.cls ≠ "java/lang/invoke/VarHandle" ∧ (parseMethodDescriptor yX0_shirtWithButton.desc).map (fun d => d.parameters.length) = some 1 := by decide +kernel
theorem gX0_shirtWithButton_X0_ofShirt : GoodIn kG (wsV RX0 75 RX0 yX0_ofShirt kwX0_ofShirt) := gK w15_10 (gK w15_11 (gK w15_12 (gK w0_19 (gK w15_13 gGG))))
theorem dX0_shirtWithButton_0 : decode cX0_shirtWithButton 0 = .ok (.iconst 0, 1) := by decide +kernel
theorem dX0_shirtWithButton_1 : decode cX0_shirtWithButton 1 = .ok (.istore_n 2, 1) := by decide +kernel
theorem dX0_shirtWithButton_2 : decode cX0_shirtWithButton 2 = .ok (.iload_n 2, 1) := by decide +kernel
theorem dX0_shirtWithButton_3 : decode cX0_shirtWithButton 3 = .ok (.aload_n 0, 1) := by decide +kernel
theorem dX0_shirtWithButton_4 : decode cX0_shirtWithButton 4 = .ok (.getfield 26, 3) := by decide +kernel
theorem dX0_shirtWithButton_7 : decode cX0_shirtWithButton 7 = .ok (.if_icmp .ge 21, 3) := by decide +kernel
theorem dX0_shirtWithButton_10 : decode cX0_shirtWithButton 10 = .ok (.aload_n 0, 1) := by decide +kernel
theorem dX0_shirtWithButton_11 : decode cX0_shirtWithButton 11 = .ok (.iload_n 2, 1) := by decide +kernel
theorem dX0_shirtWithButton_12 : decode cX0_shirtWithButton 12 = .ok (.iconst 4, 1) := by decide +kernel
theorem dX0_shirtWithButton_13 : decode cX0_shirtWithButton 13 = .ok (.invokevirtual 75, 3) := by decide +kernel
theorem dX0_shirtWithButton_16 : decode cX0_shirtWithButton 16 = .ok (.iload_n 1, 1) := by decide +kernel
theorem dX0_shirtWithButton_17 : decode cX0_shirtWithButton 17 = .ok (.if_icmp .ne 5, 3) := by decide +kernel
theorem dX0_shirtWithButton_20 : decode cX0_shirtWithButton 20 = .ok (.iload_n 2, 1) := by decide +kernel
theorem dX0_shirtWithButton_21 : decode cX0_shirtWithButton 21 = .ok (.ireturn, 1) := by decide +kernel
theorem dX0_shirtWithButton_22 : decode cX0_shirtWithButton 22 = .ok (.iinc 2 1, 3) := by decide +kernel
theorem dX0_shirtWithButton_25 : decode cX0_shirtWithButton 25 = .ok (.goto (-23), 3) := by decide +kernel
theorem dX0_shirtWithButton_28 : decode cX0_shirtWithButton 28 = .ok (.iconst (-1), 1) := by decide +kernel
theorem dX0_shirtWithButton_29 : decode cX0_shirtWithButton 29 = .ok (.ireturn, 1) := by decide +kernel
set_option maxHeartbeats 4000000 in
set_option maxRecDepth 100000 in
/-- Camp.shirtWithButton -/
theorem z_Camp_shirtWithButton (l : Launch) (D : va_G) (cI cJ cB cC : ClassId) (h : Nat) (m1 : Nat) (m2 : Nat) (m3 : Nat) (mc : Int32) (sc : Int32) (tx : Int32) (nr : Int32) (ra : Int32) (ru : Int32) (dy : Int32) (wa : Int32) (se : Int32) (lw : Option Nat) (f1 : Nat → Int32) (f2 : Nat → Int32) (f3 : Nat → Int64) (a : Int32) (sz : Nat)  : Met l yX0_shirtWithButton kwX0_shirtWithButton ({ frames := 1, cells := 0, slots := 0, locals := 23 } : Room) (kPre D (kT cI cJ cB cC) sz [(h, oX0 m1 m2 m3 mc sc tx nr ra ru dy wa se lw), (m1, .inl (cI, 50, .inl f1)), (m2, .inl (cI, 72, .inl f2)), (m3, .inl (cJ, 30, .inr (.inl f3)))] [.ref h, .int a]) (va_Qi (fun (r : Int32) (_ : Unit) => Rg r (-1) 2147483646) (fun (_ : Unit) (t : State) => kB D (kT cI cJ cB cC) (va_A [(h, oX0 m1 m2 m3 mc sc tx nr ra ru dy wa se lw), (m1, .inl (cI, 50, .inl f1)), (m2, .inl (cI, 72, .inl f2)), (m3, .inl (cJ, 30, .inr (.inl f3)))] sz) [(h, oX0 m1 m2 m3 mc sc tx nr ra ru dy wa se lw), (m1, .inl (cI, 50, .inl f1)), (m2, .inl (cI, 72, .inl f2)), (m3, .inl (cJ, 30, .inr (.inl f3)))] t) (va_A [(h, oX0 m1 m2 m3 mc sc tx nr ra ru dy wa se lw), (m1, .inl (cI, 50, .inl f1)), (m2, .inl (cI, 72, .inl f2)), (m3, .inl (cJ, 30, .inr (.inl f3)))] sz)) 0 0 (va_A [(h, oX0 m1 m2 m3 mc sc tx nr ra ru dy wa se lw), (m1, .inl (cI, 50, .inl f1)), (m2, .inl (cI, 72, .inl f2)), (m3, .inl (cJ, 30, .inr (.inl f3)))] sz) := by
  refine Met.ofW (cc := cX0_shirtWithButton) (maxL := 3) (ret := (some .int)) (by decide) rfl ?_
  intro p e s m args below meth c s₁ B hml hv
  obtain ⟨rfl, hsz, hN, hE, hP, hK, hD0⟩ := hv
  have hx := B.exec
  have hb := B.bytes
  have hr := B.returns
  have hts := fun (w : Cond) (h : w ∈ kG) => atoms_spec (ws := kwX0_shirtWithButton) B.pre w (List.mem_cons_of_mem _ h)
  have hown : s.vm.findClass RX0 = some m.cls := findClass_of_methodNamed B.named
  subst hsz
  have hD := hD0.self (sz := s.heap.size)
  generalize hAe : va_A [(h, oX0 m1 m2 m3 mc sc tx nr ra ru dy wa se lw), (m1, .inl (cI, 50, .inl f1)), (m2, .inl (cI, 72, .inl f2)), (m3, .inl (cJ, 30, .inr (.inl f3)))] s.heap.size = A at hD hE ⊢
  have hA : ∀ q : Nat, s.heap.size ≤ q → A q := fun q h => by rw [← hAe]; exact Or.inr h
  have hl := lv_entry ([.ref h, .int a]) (n := 3) (Nat.le_of_ble_eq_true rfl)
  rw [lg_entry_eq]
  generalize (lg_sl ([.ref h, .int a]) ++ List.replicate (3 - (lg_sl ([.ref h, .int a])).length) Slot.unset).toArray = ls at hl ⊢
  have hl : lv_has ls 3 [(0, .ref h), (1, .int a)] := hl
  obtain ⟨H, hH0⟩ : ∃ H, H = s.heap := ⟨_, rfl⟩
  have hS : va_S A s.heap H [] := by rw [hH0]; exact va_S.rf
  have hP : va_P D vwCl [(h, oX0 m1 m2 m3 mc sc tx nr ra ru dy wa se lw), (m1, .inl (cI, 50, .inl f1)), (m2, .inl (cI, 72, .inl f2)), (m3, .inl (cJ, 30, .inr (.inl f3)))] H := by rw [hH0]; exact hP
  refine kHeap hH0 ?_
  clear hH0
  refine lv_iconst (v := 0) hx hb dX0_shirtWithButton_0 (by decide) ?_
  refine lv_istore_n (lv' := [(2, .int 0), (0, .ref h), (1, .int a)]) hx hb dX0_shirtWithButton_1 rfl hl (by decide) rfl (fun ls hl => ?_)
  refine k_loop (hd := 2) (fun (y70 : Int32) => (2147483647 - (y70).toInt).toNat) (fun (y70 : Int32) (H : Heap) (locs : List Loc) (ls : Array Slot) => Rg y70 0 2147483647 ∧ va_P D vwCl [(h, oX0 m1 m2 m3 mc sc tx nr ra ru dy wa se lw), (m1, .inl (cI, 50, .inl f1)), (m2, .inl (cI, 72, .inl f2)), (m3, .inl (cJ, 30, .inr (.inl f3)))] H ∧ va_D A [(h, oX0 m1 m2 m3 mc sc tx nr ra ru dy wa se lw), (m1, .inl (cI, 50, .inl f1)), (m2, .inl (cI, 72, .inl f2)), (m3, .inl (cJ, 30, .inr (.inl f3)))] ∧ va_S A s.heap H locs ∧ lv_has ls 3 [(2, .int y70), (0, .ref h), (1, .int a)]) ((0 : Int32)) ⟨(rg_w (rg_lit (n := 0) (by decide)) (by decide)), hP.sub (ws' := [(h, oX0 m1 m2 m3 mc sc tx nr ra ru dy wa se lw), (m1, .inl (cI, 50, .inl f1)), (m2, .inl (cI, 72, .inl f2)), (m3, .inl (cJ, 30, .inr (.inl f3)))]) [0, 1, 2, 3] rfl, hD.sub (ws' := [(h, oX0 m1 m2 m3 mc sc tx nr ra ru dy wa se lw), (m1, .inl (cI, 50, .inl f1)), (m2, .inl (cI, 72, .inl f2)), (m3, .inl (cJ, 30, .inr (.inl f3)))]) [0, 1, 2, 3] (by decide) rfl, hS, lv_sub (l' := [(2, .int 0), (0, .ref h), (1, .int a)]) hl [0, 1, 2] rfl⟩ (fun u H locs ls hI ih71 => ?_)
  clear hP hD hS hl
  obtain ⟨y70, rfl⟩ : ∃ z, z = u := ⟨_, rfl⟩
  obtain ⟨hy70, hP, hD, hS, hl⟩ := hI
  have hP : va_P D vwCl [(h, oX0 m1 m2 m3 mc sc tx nr ra ru dy wa se lw), (m1, .inl (cI, 50, .inl f1)), (m2, .inl (cI, 72, .inl f2)), (m3, .inl (cJ, 30, .inr (.inl f3)))] H := hP
  have hD : va_D A [(h, oX0 m1 m2 m3 mc sc tx nr ra ru dy wa se lw), (m1, .inl (cI, 50, .inl f1)), (m2, .inl (cI, 72, .inl f2)), (m3, .inl (cJ, 30, .inr (.inl f3)))] := hD
  have hl : lv_has ls 3 [(2, .int y70), (0, .ref h), (1, .int a)] := hl
  refine lv_iload_n hx hb dX0_shirtWithButton_2 rfl (lv_at hl 0 rfl) ?_
  refine lv_aload_n hx hb dX0_shirtWithButton_3 rfl (lv_at hl 1 rfl) ?_
  refine va_get (D := D) (ci := 0) (v := .int sc) (C := RX0) (T := TX0) (N := 13) hx hb hts iG_X0 hown hK hP 0 rfl rfl 4 (by decide) (hts _ w2_6) (fun _ h9 => h9) rfl dX0_shirtWithButton_4 ?_
  refine lv_icmp_ge (tgt := 28) hx hb dX0_shirtWithButton_7 (by decide) (fun c72 => ?_) (fun c72 => ?_)
  · skip
    refine lv_iconst (v := (-1)) hx hb dX0_shirtWithButton_28 (by decide) ?_
    have hP9 := hP.sub (ws' := [(h, oX0 m1 m2 m3 mc sc tx nr ra ru dy wa se lw), (m1, .inl (cI, 50, .inl f1)), (m2, .inl (cI, 72, .inl f2)), (m3, .inl (cJ, 30, .inr (.inl f3)))]) [0, 1, 2, 3] rfl
    have hD9 := hD.sub (ws' := [(h, oX0 m1 m2 m3 mc sc tx nr ra ru dy wa se lw), (m1, .inl (cI, 50, .inl f1)), (m2, .inl (cI, 72, .inl f2)), (m3, .inl (cJ, 30, .inr (.inl f3)))]) [0, 1, 2, 3] (by decide) rfl
    exact W.iret (v := (-1)) hx hb hr (fun t ht hW => ⟨⟨(-1), (), rfl, (rg_w (rg_lit (n := -1) (by decide)) (by decide)), by rw [ht]; exact hP9, va_K.moved hW.alike hK, hD9⟩, hS.F ht⟩) hS.2.2 dX0_shirtWithButton_29
  · skip
    have k73 : Rg y70 0 2147483646 := rg_l1 (nleI c72) hy70 (rg_any sc) (by decide)
    have k74 : Rg sc 1 2147483647 := rg_l2 (nleI c72) hy70 (rg_any sc) (by decide)
    refine lv_aload_n hx hb dX0_shirtWithButton_10 rfl (lv_at hl 1 rfl) ?_
    refine lv_iload_n hx hb dX0_shirtWithButton_11 rfl (lv_at hl 0 rfl) ?_
    refine lv_iconst (v := 4) hx hb dX0_shirtWithButton_12 (by decide) ?_
    refine kpurei (wc := [(h, oX0 m1 m2 m3 mc sc tx nr ra ru dy wa se lw), (m1, .inl (cI, 50, .inl f1)), (m2, .inl (cI, 72, .inl f2)), (m3, .inl (cJ, 30, .inr (.inl f3)))]) hP hD hS hA [0, 1, 2, 3] rfl (by decide) (fun hPc hDc hFc => va_runV (As := [.int y70, .int 4]) (rest := []) ⟨hx, hb, hml, hown, hts⟩ (z_Camp_ofShirt l D cI cJ cB cC h m1 m2 m3 mc sc tx nr ra ru dy wa se lw f1 f2 f3 y70 4 H.size) (cwV 2 hts gX0_shirtWithButton_X0_ofShirt rfl rfl rfl ⟨rfl, hdX0_ofShirt⟩ ⟨Nat.le_of_ble_eq_true rfl, Nat.le_of_ble_eq_true rfl⟩) ⟨kBlind, va_recv hK hPc (ci := 0) (q0 := 0) rfl rfl, fun U hU hW => ⟨rfl, by rw [hU], hN.warm hW, hE.pass hS hFc hW hU, by rw [hU]; exact hPc, va_K.moved hW.alike hK, hDc⟩⟩ rfl rfl hl.1 rfl (lv_room (Nat.le_of_ble_eq_true rfl)) dX0_shirtWithButton_13 ⟨Nat.le_of_ble_eq_true rfl, Nat.le_of_ble_eq_true rfl⟩) (fun r75 u H locs hw hP hS => ?_)
    refine lv_iload_n hx hb dX0_shirtWithButton_16 rfl (lv_at hl 2 rfl) ?_
    refine lv_icmp_ne (tgt := 22) hx hb dX0_shirtWithButton_17 (by decide) (fun c76 => ?_) (fun c76 => ?_)
    · skip
      obtain ⟨x77, ex77⟩ : ∃ y : Int32, y = y70 + 1 := ⟨_, rfl⟩
      refine lv_iinc (v := x77) (lv' := [(2, .int x77), (0, .ref h), (1, .int a)]) hx hb dX0_shirtWithButton_22 hl (k := 0) rfl (by rw [ex77]; rfl) (by decide) rfl (fun ls hl => ?_)
      have k78 : Rg x77 1 2147483647 := rg_add ex77 k73 (rg_lit (n := 1) (by decide)) (by decide)
      refine lv_goto (tgt := 2) hx hb dX0_shirtWithButton_25 (by decide) ?_
      exact ih71 (x77) _ _ _ (by show (2147483647 - (x77).toInt).toNat < (2147483647 - (y70).toInt).toNat; exact mu_up ex77 k73 k78 (by decide)) ⟨(rg_w k78 (by decide)), hP.sub (ws' := [(h, oX0 m1 m2 m3 mc sc tx nr ra ru dy wa se lw), (m1, .inl (cI, 50, .inl f1)), (m2, .inl (cI, 72, .inl f2)), (m3, .inl (cJ, 30, .inr (.inl f3)))]) [0, 1, 2, 3] rfl, hD.sub (ws' := [(h, oX0 m1 m2 m3 mc sc tx nr ra ru dy wa se lw), (m1, .inl (cI, 50, .inl f1)), (m2, .inl (cI, 72, .inl f2)), (m3, .inl (cJ, 30, .inr (.inl f3)))]) [0, 1, 2, 3] (by decide) rfl, hS, lv_sub (l' := [(2, .int x77), (0, .ref h), (1, .int a)]) hl [0, 1, 2] rfl⟩
    · skip
      refine lv_iload_n hx hb dX0_shirtWithButton_20 rfl (lv_at hl 0 rfl) ?_
      have hP9 := hP.sub (ws' := [(h, oX0 m1 m2 m3 mc sc tx nr ra ru dy wa se lw), (m1, .inl (cI, 50, .inl f1)), (m2, .inl (cI, 72, .inl f2)), (m3, .inl (cJ, 30, .inr (.inl f3)))]) [0, 1, 2, 3] rfl
      have hD9 := hD.sub (ws' := [(h, oX0 m1 m2 m3 mc sc tx nr ra ru dy wa se lw), (m1, .inl (cI, 50, .inl f1)), (m2, .inl (cI, 72, .inl f2)), (m3, .inl (cJ, 30, .inr (.inl f3)))]) [0, 1, 2, 3] (by decide) rfl
      exact W.iret (v := y70) hx hb hr (fun t ht hW => ⟨⟨y70, (), rfl, (rg_w k73 (by decide)), by rw [ht]; exact hP9, va_K.moved hW.alike hK, hD9⟩, hS.F ht⟩) hS.2.2 dX0_shirtWithButton_21

def kwX0_shirtsInChest : List Cond := .code yX0_shirtsInChest cX0_shirtsInChest 3 (some .int) :: kG
theorem hdX0_shirtsInChest : yX0_shirtsInChest.cls ≠ "java/lang/invoke/MethodHandle" ∧ yX0_shirtsInChest.cls ≠ "java/lang/invoke/VarHandle" ∧ (parseMethodDescriptor yX0_shirtsInChest.desc).map (fun d => d.parameters.length) = some 0 := by decide +kernel
theorem gX0_shirtsInChest_X0_isInChest : GoodIn kG (wsV RX0 155 RX0 yX0_isInChest kwX0_isInChest) := gK w45_1 (gK w15_7 (gK w15_8 (gK w0_19 (gK w15_9 gGG))))
theorem dX0_shirtsInChest_0 : decode cX0_shirtsInChest 0 = .ok (.iconst 0, 1) := by decide +kernel
theorem dX0_shirtsInChest_1 : decode cX0_shirtsInChest 1 = .ok (.istore_n 1, 1) := by decide +kernel
theorem dX0_shirtsInChest_2 : decode cX0_shirtsInChest 2 = .ok (.iconst 0, 1) := by decide +kernel
theorem dX0_shirtsInChest_3 : decode cX0_shirtsInChest 3 = .ok (.istore_n 2, 1) := by decide +kernel
theorem dX0_shirtsInChest_4 : decode cX0_shirtsInChest 4 = .ok (.iload_n 2, 1) := by decide +kernel
theorem dX0_shirtsInChest_5 : decode cX0_shirtsInChest 5 = .ok (.aload_n 0, 1) := by decide +kernel
theorem dX0_shirtsInChest_6 : decode cX0_shirtsInChest 6 = .ok (.getfield 26, 3) := by decide +kernel
theorem dX0_shirtsInChest_9 : decode cX0_shirtsInChest 9 = .ok (.if_icmp .ge 20, 3) := by decide +kernel
theorem dX0_shirtsInChest_12 : decode cX0_shirtsInChest 12 = .ok (.aload_n 0, 1) := by decide +kernel
theorem dX0_shirtsInChest_13 : decode cX0_shirtsInChest 13 = .ok (.iload_n 2, 1) := by decide +kernel
theorem dX0_shirtsInChest_14 : decode cX0_shirtsInChest 14 = .ok (.invokevirtual 155, 3) := by decide +kernel
theorem dX0_shirtsInChest_17 : decode cX0_shirtsInChest 17 = .ok (.ifCond .eq 6, 3) := by decide +kernel
theorem dX0_shirtsInChest_20 : decode cX0_shirtsInChest 20 = .ok (.iinc 1 1, 3) := by decide +kernel
theorem dX0_shirtsInChest_23 : decode cX0_shirtsInChest 23 = .ok (.iinc 2 1, 3) := by decide +kernel
theorem dX0_shirtsInChest_26 : decode cX0_shirtsInChest 26 = .ok (.goto (-22), 3) := by decide +kernel
theorem dX0_shirtsInChest_29 : decode cX0_shirtsInChest 29 = .ok (.iload_n 1, 1) := by decide +kernel
theorem dX0_shirtsInChest_30 : decode cX0_shirtsInChest 30 = .ok (.ireturn, 1) := by decide +kernel
set_option maxHeartbeats 4000000 in
set_option maxRecDepth 100000 in
/-- Camp.shirtsInChest -/
theorem z_Camp_shirtsInChest (l : Launch) (D : va_G) (cI cJ cB cC : ClassId) (h : Nat) (m1 : Nat) (m2 : Nat) (m3 : Nat) (mc : Int32) (sc : Int32) (tx : Int32) (nr : Int32) (ra : Int32) (ru : Int32) (dy : Int32) (wa : Int32) (se : Int32) (lw : Option Nat) (f1 : Nat → Int32) (f2 : Nat → Int32) (f3 : Nat → Int64) (sz : Nat)  : Met l yX0_shirtsInChest kwX0_shirtsInChest ({ frames := 2, cells := 0, slots := 0, locals := 44 } : Room) (kPre D (kT cI cJ cB cC) sz [(h, oX0 m1 m2 m3 mc sc tx nr ra ru dy wa se lw), (m1, .inl (cI, 50, .inl f1)), (m2, .inl (cI, 72, .inl f2)), (m3, .inl (cJ, 30, .inr (.inl f3)))] [.ref h]) (va_Qi (fun (r : Int32) (_ : Unit) => True) (fun (_ : Unit) (t : State) => kB D (kT cI cJ cB cC) (va_A [(h, oX0 m1 m2 m3 mc sc tx nr ra ru dy wa se lw), (m1, .inl (cI, 50, .inl f1)), (m2, .inl (cI, 72, .inl f2)), (m3, .inl (cJ, 30, .inr (.inl f3)))] sz) [(h, oX0 m1 m2 m3 mc sc tx nr ra ru dy wa se lw), (m1, .inl (cI, 50, .inl f1)), (m2, .inl (cI, 72, .inl f2)), (m3, .inl (cJ, 30, .inr (.inl f3)))] t) (va_A [(h, oX0 m1 m2 m3 mc sc tx nr ra ru dy wa se lw), (m1, .inl (cI, 50, .inl f1)), (m2, .inl (cI, 72, .inl f2)), (m3, .inl (cJ, 30, .inr (.inl f3)))] sz)) 0 0 (va_A [(h, oX0 m1 m2 m3 mc sc tx nr ra ru dy wa se lw), (m1, .inl (cI, 50, .inl f1)), (m2, .inl (cI, 72, .inl f2)), (m3, .inl (cJ, 30, .inr (.inl f3)))] sz) := by
  refine Met.ofW (cc := cX0_shirtsInChest) (maxL := 3) (ret := (some .int)) (by decide) rfl ?_
  intro p e s m args below meth c s₁ B hml hv
  obtain ⟨rfl, hsz, hN, hE, hP, hK, hD0⟩ := hv
  have hx := B.exec
  have hb := B.bytes
  have hr := B.returns
  have hts := fun (w : Cond) (h : w ∈ kG) => atoms_spec (ws := kwX0_shirtsInChest) B.pre w (List.mem_cons_of_mem _ h)
  have hown : s.vm.findClass RX0 = some m.cls := findClass_of_methodNamed B.named
  subst hsz
  have hD := hD0.self (sz := s.heap.size)
  generalize hAe : va_A [(h, oX0 m1 m2 m3 mc sc tx nr ra ru dy wa se lw), (m1, .inl (cI, 50, .inl f1)), (m2, .inl (cI, 72, .inl f2)), (m3, .inl (cJ, 30, .inr (.inl f3)))] s.heap.size = A at hD hE ⊢
  have hA : ∀ q : Nat, s.heap.size ≤ q → A q := fun q h => by rw [← hAe]; exact Or.inr h
  have hl := lv_entry ([.ref h]) (n := 3) (Nat.le_of_ble_eq_true rfl)
  rw [lg_entry_eq]
  generalize (lg_sl ([.ref h]) ++ List.replicate (3 - (lg_sl ([.ref h])).length) Slot.unset).toArray = ls at hl ⊢
  have hl : lv_has ls 3 [(0, .ref h)] := hl
  obtain ⟨H, hH0⟩ : ∃ H, H = s.heap := ⟨_, rfl⟩
  have hS : va_S A s.heap H [] := by rw [hH0]; exact va_S.rf
  have hP : va_P D vwCl [(h, oX0 m1 m2 m3 mc sc tx nr ra ru dy wa se lw), (m1, .inl (cI, 50, .inl f1)), (m2, .inl (cI, 72, .inl f2)), (m3, .inl (cJ, 30, .inr (.inl f3)))] H := by rw [hH0]; exact hP
  refine kHeap hH0 ?_
  clear hH0
  refine lv_iconst (v := 0) hx hb dX0_shirtsInChest_0 (by decide) ?_
  refine lv_istore_n (lv' := [(1, .int 0), (0, .ref h)]) hx hb dX0_shirtsInChest_1 rfl hl (by decide) rfl (fun ls hl => ?_)
  refine lv_iconst (v := 0) hx hb dX0_shirtsInChest_2 (by decide) ?_
  refine lv_istore_n (lv' := [(2, .int 0), (1, .int 0), (0, .ref h)]) hx hb dX0_shirtsInChest_3 rfl hl (by decide) rfl (fun ls hl => ?_)
  refine k_loop (hd := 4) (fun (u : Int32 × Int32) => match u with | (y139, y140) => (2147483647 - (y139).toInt).toNat) (fun (u : Int32 × Int32) (H : Heap) (locs : List Loc) (ls : Array Slot) => match u with | (y139, y140) => Rg y139 0 2147483647 ∧ va_P D vwCl [(h, oX0 m1 m2 m3 mc sc tx nr ra ru dy wa se lw), (m1, .inl (cI, 50, .inl f1)), (m2, .inl (cI, 72, .inl f2)), (m3, .inl (cJ, 30, .inr (.inl f3)))] H ∧ va_D A [(h, oX0 m1 m2 m3 mc sc tx nr ra ru dy wa se lw), (m1, .inl (cI, 50, .inl f1)), (m2, .inl (cI, 72, .inl f2)), (m3, .inl (cJ, 30, .inr (.inl f3)))] ∧ va_S A s.heap H locs ∧ lv_has ls 3 [(2, .int y139), (1, .int y140), (0, .ref h)]) ((0 : Int32), (0 : Int32)) ⟨(rg_w (rg_lit (n := 0) (by decide)) (by decide)), hP.sub (ws' := [(h, oX0 m1 m2 m3 mc sc tx nr ra ru dy wa se lw), (m1, .inl (cI, 50, .inl f1)), (m2, .inl (cI, 72, .inl f2)), (m3, .inl (cJ, 30, .inr (.inl f3)))]) [0, 1, 2, 3] rfl, hD.sub (ws' := [(h, oX0 m1 m2 m3 mc sc tx nr ra ru dy wa se lw), (m1, .inl (cI, 50, .inl f1)), (m2, .inl (cI, 72, .inl f2)), (m3, .inl (cJ, 30, .inr (.inl f3)))]) [0, 1, 2, 3] (by decide) rfl, hS, lv_sub (l' := [(2, .int 0), (1, .int 0), (0, .ref h)]) hl [0, 1, 2] rfl⟩ (fun u H locs ls hI ih141 => ?_)
  clear hP hD hS hl
  obtain ⟨y139, y140⟩ := u
  obtain ⟨hy139, hP, hD, hS, hl⟩ := hI
  have hP : va_P D vwCl [(h, oX0 m1 m2 m3 mc sc tx nr ra ru dy wa se lw), (m1, .inl (cI, 50, .inl f1)), (m2, .inl (cI, 72, .inl f2)), (m3, .inl (cJ, 30, .inr (.inl f3)))] H := hP
  have hD : va_D A [(h, oX0 m1 m2 m3 mc sc tx nr ra ru dy wa se lw), (m1, .inl (cI, 50, .inl f1)), (m2, .inl (cI, 72, .inl f2)), (m3, .inl (cJ, 30, .inr (.inl f3)))] := hD
  have hl : lv_has ls 3 [(2, .int y139), (1, .int y140), (0, .ref h)] := hl
  refine lv_iload_n hx hb dX0_shirtsInChest_4 rfl (lv_at hl 0 rfl) ?_
  refine lv_aload_n hx hb dX0_shirtsInChest_5 rfl (lv_at hl 2 rfl) ?_
  refine va_get (D := D) (ci := 0) (v := .int sc) (C := RX0) (T := TX0) (N := 13) hx hb hts iG_X0 hown hK hP 0 rfl rfl 4 (by decide) (hts _ w2_6) (fun _ h9 => h9) rfl dX0_shirtsInChest_6 ?_
  refine lv_icmp_ge (tgt := 29) hx hb dX0_shirtsInChest_9 (by decide) (fun c142 => ?_) (fun c142 => ?_)
  · skip
    refine lv_iload_n hx hb dX0_shirtsInChest_29 rfl (lv_at hl 1 rfl) ?_
    have hP9 := hP.sub (ws' := [(h, oX0 m1 m2 m3 mc sc tx nr ra ru dy wa se lw), (m1, .inl (cI, 50, .inl f1)), (m2, .inl (cI, 72, .inl f2)), (m3, .inl (cJ, 30, .inr (.inl f3)))]) [0, 1, 2, 3] rfl
    have hD9 := hD.sub (ws' := [(h, oX0 m1 m2 m3 mc sc tx nr ra ru dy wa se lw), (m1, .inl (cI, 50, .inl f1)), (m2, .inl (cI, 72, .inl f2)), (m3, .inl (cJ, 30, .inr (.inl f3)))]) [0, 1, 2, 3] (by decide) rfl
    exact W.iret (v := y140) hx hb hr (fun t ht hW => ⟨⟨y140, (), rfl, trivial, by rw [ht]; exact hP9, va_K.moved hW.alike hK, hD9⟩, hS.F ht⟩) hS.2.2 dX0_shirtsInChest_30
  · skip
    have k143 : Rg y139 0 2147483646 := rg_l1 (nleI c142) hy139 (rg_any sc) (by decide)
    have k144 : Rg sc 1 2147483647 := rg_l2 (nleI c142) hy139 (rg_any sc) (by decide)
    refine lv_aload_n hx hb dX0_shirtsInChest_12 rfl (lv_at hl 2 rfl) ?_
    refine lv_iload_n hx hb dX0_shirtsInChest_13 rfl (lv_at hl 0 rfl) ?_
    refine kpurei (wc := [(h, oX0 m1 m2 m3 mc sc tx nr ra ru dy wa se lw), (m1, .inl (cI, 50, .inl f1)), (m2, .inl (cI, 72, .inl f2)), (m3, .inl (cJ, 30, .inr (.inl f3)))]) hP hD hS hA [0, 1, 2, 3] rfl (by decide) (fun hPc hDc hFc => va_runV (As := [.int y139]) (rest := []) ⟨hx, hb, hml, hown, hts⟩ (z_Camp_isInChest l D cI cJ cB cC h m1 m2 m3 mc sc tx nr ra ru dy wa se lw f1 f2 f3 y139 H.size) (cwV 1 hts gX0_shirtsInChest_X0_isInChest rfl rfl rfl ⟨rfl, hdX0_isInChest⟩ ⟨Nat.le_of_ble_eq_true rfl, Nat.le_of_ble_eq_true rfl⟩) ⟨kBlind, va_recv hK hPc (ci := 0) (q0 := 0) rfl rfl, fun U hU hW => ⟨rfl, by rw [hU], hN.warm hW, hE.pass hS hFc hW hU, by rw [hU]; exact hPc, va_K.moved hW.alike hK, hDc⟩⟩ rfl rfl hl.1 rfl (lv_room (Nat.le_of_ble_eq_true rfl)) dX0_shirtsInChest_14 ⟨Nat.le_of_ble_eq_true rfl, Nat.le_of_ble_eq_true rfl⟩) (fun r145 u H locs hw hP hS => ?_)
    rcases hw with rfl | rfl
    · skip
      refine lv_if_eq (tgt := 23) hx hb dX0_shirtsInChest_17 (by decide) (fun _ => ?_) (fun c148 => absurd (by decide) c148)
      obtain ⟨x149, ex149⟩ : ∃ y : Int32, y = y139 + 1 := ⟨_, rfl⟩
      refine lv_iinc (v := x149) (lv' := [(2, .int x149), (1, .int y140), (0, .ref h)]) hx hb dX0_shirtsInChest_23 hl (k := 0) rfl (by rw [ex149]; rfl) (by decide) rfl (fun ls hl => ?_)
      have k150 : Rg x149 1 2147483647 := rg_add ex149 k143 (rg_lit (n := 1) (by decide)) (by decide)
      refine lv_goto (tgt := 4) hx hb dX0_shirtsInChest_26 (by decide) ?_
      exact ih141 (x149, y140) _ _ _ (by show (2147483647 - (x149).toInt).toNat < (2147483647 - (y139).toInt).toNat; exact mu_up ex149 k143 k150 (by decide)) ⟨(rg_w k150 (by decide)), hP.sub (ws' := [(h, oX0 m1 m2 m3 mc sc tx nr ra ru dy wa se lw), (m1, .inl (cI, 50, .inl f1)), (m2, .inl (cI, 72, .inl f2)), (m3, .inl (cJ, 30, .inr (.inl f3)))]) [0, 1, 2, 3] rfl, hD.sub (ws' := [(h, oX0 m1 m2 m3 mc sc tx nr ra ru dy wa se lw), (m1, .inl (cI, 50, .inl f1)), (m2, .inl (cI, 72, .inl f2)), (m3, .inl (cJ, 30, .inr (.inl f3)))]) [0, 1, 2, 3] (by decide) rfl, hS, lv_sub (l' := [(2, .int x149), (1, .int y140), (0, .ref h)]) hl [0, 1, 2] rfl⟩
    · skip
      refine lv_if_eq (tgt := 23) hx hb dX0_shirtsInChest_17 (by decide) (fun c153 => absurd c153 (by decide)) (fun _ => ?_)
      obtain ⟨x154, ex154⟩ : ∃ y : Int32, y = y140 + 1 := ⟨_, rfl⟩
      refine lv_iinc (v := x154) (lv' := [(1, .int x154), (2, .int y139), (0, .ref h)]) hx hb dX0_shirtsInChest_20 hl (k := 1) rfl (by rw [ex154]; rfl) (by decide) rfl (fun ls hl => ?_)
      obtain ⟨x155, ex155⟩ : ∃ y : Int32, y = y139 + 1 := ⟨_, rfl⟩
      refine lv_iinc (v := x155) (lv' := [(2, .int x155), (1, .int x154), (0, .ref h)]) hx hb dX0_shirtsInChest_23 hl (k := 1) rfl (by rw [ex155]; rfl) (by decide) rfl (fun ls hl => ?_)
      have k156 : Rg x155 1 2147483647 := rg_add ex155 k143 (rg_lit (n := 1) (by decide)) (by decide)
      refine lv_goto (tgt := 4) hx hb dX0_shirtsInChest_26 (by decide) ?_
      exact ih141 (x155, x154) _ _ _ (by show (2147483647 - (x155).toInt).toNat < (2147483647 - (y139).toInt).toNat; exact mu_up ex155 k143 k156 (by decide)) ⟨(rg_w k156 (by decide)), hP.sub (ws' := [(h, oX0 m1 m2 m3 mc sc tx nr ra ru dy wa se lw), (m1, .inl (cI, 50, .inl f1)), (m2, .inl (cI, 72, .inl f2)), (m3, .inl (cJ, 30, .inr (.inl f3)))]) [0, 1, 2, 3] rfl, hD.sub (ws' := [(h, oX0 m1 m2 m3 mc sc tx nr ra ru dy wa se lw), (m1, .inl (cI, 50, .inl f1)), (m2, .inl (cI, 72, .inl f2)), (m3, .inl (cJ, 30, .inr (.inl f3)))]) [0, 1, 2, 3] (by decide) rfl, hS, lv_sub (l' := [(2, .int x155), (1, .int x154), (0, .ref h)]) hl [0, 1, 2] rfl⟩

def kwX0_bareMen : List Cond := .code yX0_bareMen cX0_bareMen 3 (some .int) :: kG
theorem hdX0_bareMen : yX0_bareMen.cls ≠ "java/lang/invoke/MethodHandle" ∧ yX0_bareMen.cls ≠ "java/lang/invoke/VarHandle" ∧ (parseMethodDescriptor yX0_bareMen.desc).map (fun d => d.parameters.length) = some 0 := by decide +kernel
theorem gX0_bareMen_X0_isBare : GoodIn kG (wsV RX0 171 RX0 yX0_isBare kwX0_isBare) := gK w53_11 (gK w14_21 (gK w14_22 (gK w0_19 (gK w14_23 gGG))))
theorem dX0_bareMen_0 : decode cX0_bareMen 0 = .ok (.iconst 0, 1) := by decide +kernel
theorem dX0_bareMen_1 : decode cX0_bareMen 1 = .ok (.istore_n 1, 1) := by decide +kernel
theorem dX0_bareMen_2 : decode cX0_bareMen 2 = .ok (.iconst 0, 1) := by decide +kernel
theorem dX0_bareMen_3 : decode cX0_bareMen 3 = .ok (.istore_n 2, 1) := by decide +kernel
theorem dX0_bareMen_4 : decode cX0_bareMen 4 = .ok (.iload_n 2, 1) := by decide +kernel
theorem dX0_bareMen_5 : decode cX0_bareMen 5 = .ok (.aload_n 0, 1) := by decide +kernel
theorem dX0_bareMen_6 : decode cX0_bareMen 6 = .ok (.getfield 22, 3) := by decide +kernel
theorem dX0_bareMen_9 : decode cX0_bareMen 9 = .ok (.if_icmp .ge 20, 3) := by decide +kernel
theorem dX0_bareMen_12 : decode cX0_bareMen 12 = .ok (.aload_n 0, 1) := by decide +kernel
theorem dX0_bareMen_13 : decode cX0_bareMen 13 = .ok (.iload_n 2, 1) := by decide +kernel
theorem dX0_bareMen_14 : decode cX0_bareMen 14 = .ok (.invokevirtual 171, 3) := by decide +kernel
theorem dX0_bareMen_17 : decode cX0_bareMen 17 = .ok (.ifCond .eq 6, 3) := by decide +kernel
theorem dX0_bareMen_20 : decode cX0_bareMen 20 = .ok (.iinc 1 1, 3) := by decide +kernel
theorem dX0_bareMen_23 : decode cX0_bareMen 23 = .ok (.iinc 2 1, 3) := by decide +kernel
theorem dX0_bareMen_26 : decode cX0_bareMen 26 = .ok (.goto (-22), 3) := by decide +kernel
theorem dX0_bareMen_29 : decode cX0_bareMen 29 = .ok (.iload_n 1, 1) := by decide +kernel
theorem dX0_bareMen_30 : decode cX0_bareMen 30 = .ok (.ireturn, 1) := by decide +kernel
set_option maxHeartbeats 4000000 in
set_option maxRecDepth 100000 in
/-- Camp.bareMen -/
theorem z_Camp_bareMen (l : Launch) (D : va_G) (cI cJ cB cC : ClassId) (h : Nat) (m1 : Nat) (m2 : Nat) (m3 : Nat) (mc : Int32) (sc : Int32) (tx : Int32) (nr : Int32) (ra : Int32) (ru : Int32) (dy : Int32) (wa : Int32) (se : Int32) (lw : Option Nat) (f1 : Nat → Int32) (f2 : Nat → Int32) (f3 : Nat → Int64) (sz : Nat)  : Met l yX0_bareMen kwX0_bareMen ({ frames := 2, cells := 0, slots := 0, locals := 44 } : Room) (kPre D (kT cI cJ cB cC) sz [(h, oX0 m1 m2 m3 mc sc tx nr ra ru dy wa se lw), (m1, .inl (cI, 50, .inl f1)), (m2, .inl (cI, 72, .inl f2)), (m3, .inl (cJ, 30, .inr (.inl f3)))] [.ref h]) (va_Qi (fun (r : Int32) (_ : Unit) => True) (fun (_ : Unit) (t : State) => kB D (kT cI cJ cB cC) (va_A [(h, oX0 m1 m2 m3 mc sc tx nr ra ru dy wa se lw), (m1, .inl (cI, 50, .inl f1)), (m2, .inl (cI, 72, .inl f2)), (m3, .inl (cJ, 30, .inr (.inl f3)))] sz) [(h, oX0 m1 m2 m3 mc sc tx nr ra ru dy wa se lw), (m1, .inl (cI, 50, .inl f1)), (m2, .inl (cI, 72, .inl f2)), (m3, .inl (cJ, 30, .inr (.inl f3)))] t) (va_A [(h, oX0 m1 m2 m3 mc sc tx nr ra ru dy wa se lw), (m1, .inl (cI, 50, .inl f1)), (m2, .inl (cI, 72, .inl f2)), (m3, .inl (cJ, 30, .inr (.inl f3)))] sz)) 0 0 (va_A [(h, oX0 m1 m2 m3 mc sc tx nr ra ru dy wa se lw), (m1, .inl (cI, 50, .inl f1)), (m2, .inl (cI, 72, .inl f2)), (m3, .inl (cJ, 30, .inr (.inl f3)))] sz) := by
  refine Met.ofW (cc := cX0_bareMen) (maxL := 3) (ret := (some .int)) (by decide) rfl ?_
  intro p e s m args below meth c s₁ B hml hv
  obtain ⟨rfl, hsz, hN, hE, hP, hK, hD0⟩ := hv
  have hx := B.exec
  have hb := B.bytes
  have hr := B.returns
  have hts := fun (w : Cond) (h : w ∈ kG) => atoms_spec (ws := kwX0_bareMen) B.pre w (List.mem_cons_of_mem _ h)
  have hown : s.vm.findClass RX0 = some m.cls := findClass_of_methodNamed B.named
  subst hsz
  have hD := hD0.self (sz := s.heap.size)
  generalize hAe : va_A [(h, oX0 m1 m2 m3 mc sc tx nr ra ru dy wa se lw), (m1, .inl (cI, 50, .inl f1)), (m2, .inl (cI, 72, .inl f2)), (m3, .inl (cJ, 30, .inr (.inl f3)))] s.heap.size = A at hD hE ⊢
  have hA : ∀ q : Nat, s.heap.size ≤ q → A q := fun q h => by rw [← hAe]; exact Or.inr h
  have hl := lv_entry ([.ref h]) (n := 3) (Nat.le_of_ble_eq_true rfl)
  rw [lg_entry_eq]
  generalize (lg_sl ([.ref h]) ++ List.replicate (3 - (lg_sl ([.ref h])).length) Slot.unset).toArray = ls at hl ⊢
  have hl : lv_has ls 3 [(0, .ref h)] := hl
  obtain ⟨H, hH0⟩ : ∃ H, H = s.heap := ⟨_, rfl⟩
  have hS : va_S A s.heap H [] := by rw [hH0]; exact va_S.rf
  have hP : va_P D vwCl [(h, oX0 m1 m2 m3 mc sc tx nr ra ru dy wa se lw), (m1, .inl (cI, 50, .inl f1)), (m2, .inl (cI, 72, .inl f2)), (m3, .inl (cJ, 30, .inr (.inl f3)))] H := by rw [hH0]; exact hP
  refine kHeap hH0 ?_
  clear hH0
  refine lv_iconst (v := 0) hx hb dX0_bareMen_0 (by decide) ?_
  refine lv_istore_n (lv' := [(1, .int 0), (0, .ref h)]) hx hb dX0_bareMen_1 rfl hl (by decide) rfl (fun ls hl => ?_)
  refine lv_iconst (v := 0) hx hb dX0_bareMen_2 (by decide) ?_
  refine lv_istore_n (lv' := [(2, .int 0), (1, .int 0), (0, .ref h)]) hx hb dX0_bareMen_3 rfl hl (by decide) rfl (fun ls hl => ?_)
  refine k_loop (hd := 4) (fun (u : Int32 × Int32) => match u with | (y139, y140) => (2147483647 - (y139).toInt).toNat) (fun (u : Int32 × Int32) (H : Heap) (locs : List Loc) (ls : Array Slot) => match u with | (y139, y140) => Rg y139 0 2147483647 ∧ va_P D vwCl [(h, oX0 m1 m2 m3 mc sc tx nr ra ru dy wa se lw), (m1, .inl (cI, 50, .inl f1)), (m2, .inl (cI, 72, .inl f2)), (m3, .inl (cJ, 30, .inr (.inl f3)))] H ∧ va_D A [(h, oX0 m1 m2 m3 mc sc tx nr ra ru dy wa se lw), (m1, .inl (cI, 50, .inl f1)), (m2, .inl (cI, 72, .inl f2)), (m3, .inl (cJ, 30, .inr (.inl f3)))] ∧ va_S A s.heap H locs ∧ lv_has ls 3 [(2, .int y139), (1, .int y140), (0, .ref h)]) ((0 : Int32), (0 : Int32)) ⟨(rg_w (rg_lit (n := 0) (by decide)) (by decide)), hP.sub (ws' := [(h, oX0 m1 m2 m3 mc sc tx nr ra ru dy wa se lw), (m1, .inl (cI, 50, .inl f1)), (m2, .inl (cI, 72, .inl f2)), (m3, .inl (cJ, 30, .inr (.inl f3)))]) [0, 1, 2, 3] rfl, hD.sub (ws' := [(h, oX0 m1 m2 m3 mc sc tx nr ra ru dy wa se lw), (m1, .inl (cI, 50, .inl f1)), (m2, .inl (cI, 72, .inl f2)), (m3, .inl (cJ, 30, .inr (.inl f3)))]) [0, 1, 2, 3] (by decide) rfl, hS, lv_sub (l' := [(2, .int 0), (1, .int 0), (0, .ref h)]) hl [0, 1, 2] rfl⟩ (fun u H locs ls hI ih141 => ?_)
  clear hP hD hS hl
  obtain ⟨y139, y140⟩ := u
  obtain ⟨hy139, hP, hD, hS, hl⟩ := hI
  have hP : va_P D vwCl [(h, oX0 m1 m2 m3 mc sc tx nr ra ru dy wa se lw), (m1, .inl (cI, 50, .inl f1)), (m2, .inl (cI, 72, .inl f2)), (m3, .inl (cJ, 30, .inr (.inl f3)))] H := hP
  have hD : va_D A [(h, oX0 m1 m2 m3 mc sc tx nr ra ru dy wa se lw), (m1, .inl (cI, 50, .inl f1)), (m2, .inl (cI, 72, .inl f2)), (m3, .inl (cJ, 30, .inr (.inl f3)))] := hD
  have hl : lv_has ls 3 [(2, .int y139), (1, .int y140), (0, .ref h)] := hl
  refine lv_iload_n hx hb dX0_bareMen_4 rfl (lv_at hl 0 rfl) ?_
  refine lv_aload_n hx hb dX0_bareMen_5 rfl (lv_at hl 2 rfl) ?_
  refine va_get (D := D) (ci := 0) (v := .int mc) (C := RX0) (T := TX0) (N := 13) hx hb hts iG_X0 hown hK hP 0 rfl rfl 3 (by decide) (hts _ w2_5) (fun _ h9 => h9) rfl dX0_bareMen_6 ?_
  refine lv_icmp_ge (tgt := 29) hx hb dX0_bareMen_9 (by decide) (fun c142 => ?_) (fun c142 => ?_)
  · skip
    refine lv_iload_n hx hb dX0_bareMen_29 rfl (lv_at hl 1 rfl) ?_
    have hP9 := hP.sub (ws' := [(h, oX0 m1 m2 m3 mc sc tx nr ra ru dy wa se lw), (m1, .inl (cI, 50, .inl f1)), (m2, .inl (cI, 72, .inl f2)), (m3, .inl (cJ, 30, .inr (.inl f3)))]) [0, 1, 2, 3] rfl
    have hD9 := hD.sub (ws' := [(h, oX0 m1 m2 m3 mc sc tx nr ra ru dy wa se lw), (m1, .inl (cI, 50, .inl f1)), (m2, .inl (cI, 72, .inl f2)), (m3, .inl (cJ, 30, .inr (.inl f3)))]) [0, 1, 2, 3] (by decide) rfl
    exact W.iret (v := y140) hx hb hr (fun t ht hW => ⟨⟨y140, (), rfl, trivial, by rw [ht]; exact hP9, va_K.moved hW.alike hK, hD9⟩, hS.F ht⟩) hS.2.2 dX0_bareMen_30
  · skip
    have k143 : Rg y139 0 2147483646 := rg_l1 (nleI c142) hy139 (rg_any mc) (by decide)
    have k144 : Rg mc 1 2147483647 := rg_l2 (nleI c142) hy139 (rg_any mc) (by decide)
    refine lv_aload_n hx hb dX0_bareMen_12 rfl (lv_at hl 2 rfl) ?_
    refine lv_iload_n hx hb dX0_bareMen_13 rfl (lv_at hl 0 rfl) ?_
    refine kpurei (wc := [(h, oX0 m1 m2 m3 mc sc tx nr ra ru dy wa se lw), (m1, .inl (cI, 50, .inl f1)), (m2, .inl (cI, 72, .inl f2)), (m3, .inl (cJ, 30, .inr (.inl f3)))]) hP hD hS hA [0, 1, 2, 3] rfl (by decide) (fun hPc hDc hFc => va_runV (As := [.int y139]) (rest := []) ⟨hx, hb, hml, hown, hts⟩ (z_Camp_isBare l D cI cJ cB cC h m1 m2 m3 mc sc tx nr ra ru dy wa se lw f1 f2 f3 y139 H.size) (cwV 1 hts gX0_bareMen_X0_isBare rfl rfl rfl ⟨rfl, hdX0_isBare⟩ ⟨Nat.le_of_ble_eq_true rfl, Nat.le_of_ble_eq_true rfl⟩) ⟨kBlind, va_recv hK hPc (ci := 0) (q0 := 0) rfl rfl, fun U hU hW => ⟨rfl, by rw [hU], hN.warm hW, hE.pass hS hFc hW hU, by rw [hU]; exact hPc, va_K.moved hW.alike hK, hDc⟩⟩ rfl rfl hl.1 rfl (lv_room (Nat.le_of_ble_eq_true rfl)) dX0_bareMen_14 ⟨Nat.le_of_ble_eq_true rfl, Nat.le_of_ble_eq_true rfl⟩) (fun r145 u H locs hw hP hS => ?_)
    rcases hw with rfl | rfl
    · skip
      refine lv_if_eq (tgt := 23) hx hb dX0_bareMen_17 (by decide) (fun _ => ?_) (fun c148 => absurd (by decide) c148)
      obtain ⟨x149, ex149⟩ : ∃ y : Int32, y = y139 + 1 := ⟨_, rfl⟩
      refine lv_iinc (v := x149) (lv' := [(2, .int x149), (1, .int y140), (0, .ref h)]) hx hb dX0_bareMen_23 hl (k := 0) rfl (by rw [ex149]; rfl) (by decide) rfl (fun ls hl => ?_)
      have k150 : Rg x149 1 2147483647 := rg_add ex149 k143 (rg_lit (n := 1) (by decide)) (by decide)
      refine lv_goto (tgt := 4) hx hb dX0_bareMen_26 (by decide) ?_
      exact ih141 (x149, y140) _ _ _ (by show (2147483647 - (x149).toInt).toNat < (2147483647 - (y139).toInt).toNat; exact mu_up ex149 k143 k150 (by decide)) ⟨(rg_w k150 (by decide)), hP.sub (ws' := [(h, oX0 m1 m2 m3 mc sc tx nr ra ru dy wa se lw), (m1, .inl (cI, 50, .inl f1)), (m2, .inl (cI, 72, .inl f2)), (m3, .inl (cJ, 30, .inr (.inl f3)))]) [0, 1, 2, 3] rfl, hD.sub (ws' := [(h, oX0 m1 m2 m3 mc sc tx nr ra ru dy wa se lw), (m1, .inl (cI, 50, .inl f1)), (m2, .inl (cI, 72, .inl f2)), (m3, .inl (cJ, 30, .inr (.inl f3)))]) [0, 1, 2, 3] (by decide) rfl, hS, lv_sub (l' := [(2, .int x149), (1, .int y140), (0, .ref h)]) hl [0, 1, 2] rfl⟩
    · skip
      refine lv_if_eq (tgt := 23) hx hb dX0_bareMen_17 (by decide) (fun c153 => absurd c153 (by decide)) (fun _ => ?_)
      obtain ⟨x154, ex154⟩ : ∃ y : Int32, y = y140 + 1 := ⟨_, rfl⟩
      refine lv_iinc (v := x154) (lv' := [(1, .int x154), (2, .int y139), (0, .ref h)]) hx hb dX0_bareMen_20 hl (k := 1) rfl (by rw [ex154]; rfl) (by decide) rfl (fun ls hl => ?_)
      obtain ⟨x155, ex155⟩ : ∃ y : Int32, y = y139 + 1 := ⟨_, rfl⟩
      refine lv_iinc (v := x155) (lv' := [(2, .int x155), (1, .int x154), (0, .ref h)]) hx hb dX0_bareMen_23 hl (k := 1) rfl (by rw [ex155]; rfl) (by decide) rfl (fun ls hl => ?_)
      have k156 : Rg x155 1 2147483647 := rg_add ex155 k143 (rg_lit (n := 1) (by decide)) (by decide)
      refine lv_goto (tgt := 4) hx hb dX0_bareMen_26 (by decide) ?_
      exact ih141 (x155, x154) _ _ _ (by show (2147483647 - (x155).toInt).toNat < (2147483647 - (y139).toInt).toNat; exact mu_up ex155 k143 k156 (by decide)) ⟨(rg_w k156 (by decide)), hP.sub (ws' := [(h, oX0 m1 m2 m3 mc sc tx nr ra ru dy wa se lw), (m1, .inl (cI, 50, .inl f1)), (m2, .inl (cI, 72, .inl f2)), (m3, .inl (cJ, 30, .inr (.inl f3)))]) [0, 1, 2, 3] rfl, hD.sub (ws' := [(h, oX0 m1 m2 m3 mc sc tx nr ra ru dy wa se lw), (m1, .inl (cI, 50, .inl f1)), (m2, .inl (cI, 72, .inl f2)), (m3, .inl (cJ, 30, .inr (.inl f3)))]) [0, 1, 2, 3] (by decide) rfl, hS, lv_sub (l' := [(2, .int x155), (1, .int x154), (0, .ref h)]) hl [0, 1, 2] rfl⟩

def kwX0_sumOfShirts : List Cond := .code yX0_sumOfShirts cX0_sumOfShirts 4 (some .int) :: kG
theorem hdX0_sumOfShirts : yX0_sumOfShirts.cls ≠ "java/lang/invoke/MethodHandle" ∧ yX0_sumOfShirts.cls ≠ "java/lang/invoke/VarHandle" ∧ (parseMethodDescriptor yX0_sumOfShirts.desc).map (fun d => d.parameters.length) = some 1 := by decide +kernel
theorem gX0_sumOfShirts_X0_ofShirt : GoodIn kG (wsV RX0 75 RX0 yX0_ofShirt kwX0_ofShirt) := gK w15_10 (gK w15_11 (gK w15_12 (gK w0_19 (gK w15_13 gGG))))
theorem dX0_sumOfShirts_0 : decode cX0_sumOfShirts 0 = .ok (.iconst 0, 1) := by decide +kernel
theorem dX0_sumOfShirts_1 : decode cX0_sumOfShirts 1 = .ok (.istore_n 2, 1) := by decide +kernel
theorem dX0_sumOfShirts_2 : decode cX0_sumOfShirts 2 = .ok (.iconst 0, 1) := by decide +kernel
theorem dX0_sumOfShirts_3 : decode cX0_sumOfShirts 3 = .ok (.istore_n 3, 1) := by decide +kernel
theorem dX0_sumOfShirts_4 : decode cX0_sumOfShirts 4 = .ok (.iload_n 3, 1) := by decide +kernel
theorem dX0_sumOfShirts_5 : decode cX0_sumOfShirts 5 = .ok (.aload_n 0, 1) := by decide +kernel
theorem dX0_sumOfShirts_6 : decode cX0_sumOfShirts 6 = .ok (.getfield 26, 3) := by decide +kernel
theorem dX0_sumOfShirts_9 : decode cX0_sumOfShirts 9 = .ok (.if_icmp .ge 18, 3) := by decide +kernel
theorem dX0_sumOfShirts_12 : decode cX0_sumOfShirts 12 = .ok (.iload_n 2, 1) := by decide +kernel
theorem dX0_sumOfShirts_13 : decode cX0_sumOfShirts 13 = .ok (.aload_n 0, 1) := by decide +kernel
theorem dX0_sumOfShirts_14 : decode cX0_sumOfShirts 14 = .ok (.iload_n 3, 1) := by decide +kernel
theorem dX0_sumOfShirts_15 : decode cX0_sumOfShirts 15 = .ok (.iload_n 1, 1) := by decide +kernel
theorem dX0_sumOfShirts_16 : decode cX0_sumOfShirts 16 = .ok (.invokevirtual 75, 3) := by decide +kernel
theorem dX0_sumOfShirts_19 : decode cX0_sumOfShirts 19 = .ok (.iadd, 1) := by decide +kernel
theorem dX0_sumOfShirts_20 : decode cX0_sumOfShirts 20 = .ok (.istore_n 2, 1) := by decide +kernel
theorem dX0_sumOfShirts_21 : decode cX0_sumOfShirts 21 = .ok (.iinc 3 1, 3) := by decide +kernel
theorem dX0_sumOfShirts_24 : decode cX0_sumOfShirts 24 = .ok (.goto (-20), 3) := by decide +kernel
theorem dX0_sumOfShirts_27 : decode cX0_sumOfShirts 27 = .ok (.iload_n 2, 1) := by decide +kernel
theorem dX0_sumOfShirts_28 : decode cX0_sumOfShirts 28 = .ok (.ireturn, 1) := by decide +kernel
set_option maxHeartbeats 4000000 in
set_option maxRecDepth 100000 in
/-- Camp.sumOfShirts -/
theorem z_Camp_sumOfShirts (l : Launch) (D : va_G) (cI cJ cB cC : ClassId) (h : Nat) (m1 : Nat) (m2 : Nat) (m3 : Nat) (mc : Int32) (sc : Int32) (tx : Int32) (nr : Int32) (ra : Int32) (ru : Int32) (dy : Int32) (wa : Int32) (se : Int32) (lw : Option Nat) (f1 : Nat → Int32) (f2 : Nat → Int32) (f3 : Nat → Int64) (a : Int32) (sz : Nat)  : Met l yX0_sumOfShirts kwX0_sumOfShirts ({ frames := 1, cells := 0, slots := 0, locals := 23 } : Room) (kPre D (kT cI cJ cB cC) sz [(h, oX0 m1 m2 m3 mc sc tx nr ra ru dy wa se lw), (m1, .inl (cI, 50, .inl f1)), (m2, .inl (cI, 72, .inl f2)), (m3, .inl (cJ, 30, .inr (.inl f3)))] [.ref h, .int a]) (va_Qi (fun (r : Int32) (_ : Unit) => True) (fun (_ : Unit) (t : State) => kB D (kT cI cJ cB cC) (va_A [(h, oX0 m1 m2 m3 mc sc tx nr ra ru dy wa se lw), (m1, .inl (cI, 50, .inl f1)), (m2, .inl (cI, 72, .inl f2)), (m3, .inl (cJ, 30, .inr (.inl f3)))] sz) [(h, oX0 m1 m2 m3 mc sc tx nr ra ru dy wa se lw), (m1, .inl (cI, 50, .inl f1)), (m2, .inl (cI, 72, .inl f2)), (m3, .inl (cJ, 30, .inr (.inl f3)))] t) (va_A [(h, oX0 m1 m2 m3 mc sc tx nr ra ru dy wa se lw), (m1, .inl (cI, 50, .inl f1)), (m2, .inl (cI, 72, .inl f2)), (m3, .inl (cJ, 30, .inr (.inl f3)))] sz)) 0 0 (va_A [(h, oX0 m1 m2 m3 mc sc tx nr ra ru dy wa se lw), (m1, .inl (cI, 50, .inl f1)), (m2, .inl (cI, 72, .inl f2)), (m3, .inl (cJ, 30, .inr (.inl f3)))] sz) := by
  refine Met.ofW (cc := cX0_sumOfShirts) (maxL := 4) (ret := (some .int)) (by decide) rfl ?_
  intro p e s m args below meth c s₁ B hml hv
  obtain ⟨rfl, hsz, hN, hE, hP, hK, hD0⟩ := hv
  have hx := B.exec
  have hb := B.bytes
  have hr := B.returns
  have hts := fun (w : Cond) (h : w ∈ kG) => atoms_spec (ws := kwX0_sumOfShirts) B.pre w (List.mem_cons_of_mem _ h)
  have hown : s.vm.findClass RX0 = some m.cls := findClass_of_methodNamed B.named
  subst hsz
  have hD := hD0.self (sz := s.heap.size)
  generalize hAe : va_A [(h, oX0 m1 m2 m3 mc sc tx nr ra ru dy wa se lw), (m1, .inl (cI, 50, .inl f1)), (m2, .inl (cI, 72, .inl f2)), (m3, .inl (cJ, 30, .inr (.inl f3)))] s.heap.size = A at hD hE ⊢
  have hA : ∀ q : Nat, s.heap.size ≤ q → A q := fun q h => by rw [← hAe]; exact Or.inr h
  have hl := lv_entry ([.ref h, .int a]) (n := 4) (Nat.le_of_ble_eq_true rfl)
  rw [lg_entry_eq]
  generalize (lg_sl ([.ref h, .int a]) ++ List.replicate (4 - (lg_sl ([.ref h, .int a])).length) Slot.unset).toArray = ls at hl ⊢
  have hl : lv_has ls 4 [(0, .ref h), (1, .int a)] := hl
  obtain ⟨H, hH0⟩ : ∃ H, H = s.heap := ⟨_, rfl⟩
  have hS : va_S A s.heap H [] := by rw [hH0]; exact va_S.rf
  have hP : va_P D vwCl [(h, oX0 m1 m2 m3 mc sc tx nr ra ru dy wa se lw), (m1, .inl (cI, 50, .inl f1)), (m2, .inl (cI, 72, .inl f2)), (m3, .inl (cJ, 30, .inr (.inl f3)))] H := by rw [hH0]; exact hP
  refine kHeap hH0 ?_
  clear hH0
  refine lv_iconst (v := 0) hx hb dX0_sumOfShirts_0 (by decide) ?_
  refine lv_istore_n (lv' := [(2, .int 0), (0, .ref h), (1, .int a)]) hx hb dX0_sumOfShirts_1 rfl hl (by decide) rfl (fun ls hl => ?_)
  refine lv_iconst (v := 0) hx hb dX0_sumOfShirts_2 (by decide) ?_
  refine lv_istore_n (lv' := [(3, .int 0), (2, .int 0), (0, .ref h), (1, .int a)]) hx hb dX0_sumOfShirts_3 rfl hl (by decide) rfl (fun ls hl => ?_)
  refine k_loop (hd := 4) (fun (u : Int32 × Int32) => match u with | (y78, y79) => (2147483647 - (y78).toInt).toNat) (fun (u : Int32 × Int32) (H : Heap) (locs : List Loc) (ls : Array Slot) => match u with | (y78, y79) => Rg y78 0 2147483647 ∧ va_P D vwCl [(h, oX0 m1 m2 m3 mc sc tx nr ra ru dy wa se lw), (m1, .inl (cI, 50, .inl f1)), (m2, .inl (cI, 72, .inl f2)), (m3, .inl (cJ, 30, .inr (.inl f3)))] H ∧ va_D A [(h, oX0 m1 m2 m3 mc sc tx nr ra ru dy wa se lw), (m1, .inl (cI, 50, .inl f1)), (m2, .inl (cI, 72, .inl f2)), (m3, .inl (cJ, 30, .inr (.inl f3)))] ∧ va_S A s.heap H locs ∧ lv_has ls 4 [(3, .int y78), (2, .int y79), (0, .ref h), (1, .int a)]) ((0 : Int32), (0 : Int32)) ⟨(rg_w (rg_lit (n := 0) (by decide)) (by decide)), hP.sub (ws' := [(h, oX0 m1 m2 m3 mc sc tx nr ra ru dy wa se lw), (m1, .inl (cI, 50, .inl f1)), (m2, .inl (cI, 72, .inl f2)), (m3, .inl (cJ, 30, .inr (.inl f3)))]) [0, 1, 2, 3] rfl, hD.sub (ws' := [(h, oX0 m1 m2 m3 mc sc tx nr ra ru dy wa se lw), (m1, .inl (cI, 50, .inl f1)), (m2, .inl (cI, 72, .inl f2)), (m3, .inl (cJ, 30, .inr (.inl f3)))]) [0, 1, 2, 3] (by decide) rfl, hS, lv_sub (l' := [(3, .int 0), (2, .int 0), (0, .ref h), (1, .int a)]) hl [0, 1, 2, 3] rfl⟩ (fun u H locs ls hI ih80 => ?_)
  clear hP hD hS hl
  obtain ⟨y78, y79⟩ := u
  obtain ⟨hy78, hP, hD, hS, hl⟩ := hI
  have hP : va_P D vwCl [(h, oX0 m1 m2 m3 mc sc tx nr ra ru dy wa se lw), (m1, .inl (cI, 50, .inl f1)), (m2, .inl (cI, 72, .inl f2)), (m3, .inl (cJ, 30, .inr (.inl f3)))] H := hP
  have hD : va_D A [(h, oX0 m1 m2 m3 mc sc tx nr ra ru dy wa se lw), (m1, .inl (cI, 50, .inl f1)), (m2, .inl (cI, 72, .inl f2)), (m3, .inl (cJ, 30, .inr (.inl f3)))] := hD
  have hl : lv_has ls 4 [(3, .int y78), (2, .int y79), (0, .ref h), (1, .int a)] := hl
  refine lv_iload_n hx hb dX0_sumOfShirts_4 rfl (lv_at hl 0 rfl) ?_
  refine lv_aload_n hx hb dX0_sumOfShirts_5 rfl (lv_at hl 2 rfl) ?_
  refine va_get (D := D) (ci := 0) (v := .int sc) (C := RX0) (T := TX0) (N := 13) hx hb hts iG_X0 hown hK hP 0 rfl rfl 4 (by decide) (hts _ w2_6) (fun _ h9 => h9) rfl dX0_sumOfShirts_6 ?_
  refine lv_icmp_ge (tgt := 27) hx hb dX0_sumOfShirts_9 (by decide) (fun c81 => ?_) (fun c81 => ?_)
  · skip
    refine lv_iload_n hx hb dX0_sumOfShirts_27 rfl (lv_at hl 1 rfl) ?_
    have hP9 := hP.sub (ws' := [(h, oX0 m1 m2 m3 mc sc tx nr ra ru dy wa se lw), (m1, .inl (cI, 50, .inl f1)), (m2, .inl (cI, 72, .inl f2)), (m3, .inl (cJ, 30, .inr (.inl f3)))]) [0, 1, 2, 3] rfl
    have hD9 := hD.sub (ws' := [(h, oX0 m1 m2 m3 mc sc tx nr ra ru dy wa se lw), (m1, .inl (cI, 50, .inl f1)), (m2, .inl (cI, 72, .inl f2)), (m3, .inl (cJ, 30, .inr (.inl f3)))]) [0, 1, 2, 3] (by decide) rfl
    exact W.iret (v := y79) hx hb hr (fun t ht hW => ⟨⟨y79, (), rfl, trivial, by rw [ht]; exact hP9, va_K.moved hW.alike hK, hD9⟩, hS.F ht⟩) hS.2.2 dX0_sumOfShirts_28
  · skip
    have k82 : Rg y78 0 2147483646 := rg_l1 (nleI c81) hy78 (rg_any sc) (by decide)
    have k83 : Rg sc 1 2147483647 := rg_l2 (nleI c81) hy78 (rg_any sc) (by decide)
    refine lv_iload_n hx hb dX0_sumOfShirts_12 rfl (lv_at hl 1 rfl) ?_
    refine lv_aload_n hx hb dX0_sumOfShirts_13 rfl (lv_at hl 2 rfl) ?_
    refine lv_iload_n hx hb dX0_sumOfShirts_14 rfl (lv_at hl 0 rfl) ?_
    refine lv_iload_n hx hb dX0_sumOfShirts_15 rfl (lv_at hl 3 rfl) ?_
    refine kpurei (wc := [(h, oX0 m1 m2 m3 mc sc tx nr ra ru dy wa se lw), (m1, .inl (cI, 50, .inl f1)), (m2, .inl (cI, 72, .inl f2)), (m3, .inl (cJ, 30, .inr (.inl f3)))]) hP hD hS hA [0, 1, 2, 3] rfl (by decide) (fun hPc hDc hFc => va_runV (As := [.int y78, .int a]) (rest := [.int y79]) ⟨hx, hb, hml, hown, hts⟩ (z_Camp_ofShirt l D cI cJ cB cC h m1 m2 m3 mc sc tx nr ra ru dy wa se lw f1 f2 f3 y78 a H.size) (cwV 2 hts gX0_sumOfShirts_X0_ofShirt rfl rfl rfl ⟨rfl, hdX0_ofShirt⟩ ⟨Nat.le_of_ble_eq_true rfl, Nat.le_of_ble_eq_true rfl⟩) ⟨kBlind, va_recv hK hPc (ci := 0) (q0 := 0) rfl rfl, fun U hU hW => ⟨rfl, by rw [hU], hN.warm hW, hE.pass hS hFc hW hU, by rw [hU]; exact hPc, va_K.moved hW.alike hK, hDc⟩⟩ rfl rfl hl.1 rfl (lv_room (Nat.le_of_ble_eq_true rfl)) dX0_sumOfShirts_16 ⟨Nat.le_of_ble_eq_true rfl, Nat.le_of_ble_eq_true rfl⟩) (fun r84 u H locs hw hP hS => ?_)
    refine lv_iadd hx hb dX0_sumOfShirts_19 ?_
    refine lv_topi (fun x85 ex85 => ?_)
    clear ex85
    refine lv_istore_n (lv' := [(2, .int x85), (3, .int y78), (0, .ref h), (1, .int a)]) hx hb dX0_sumOfShirts_20 rfl hl (by decide) rfl (fun ls hl => ?_)
    obtain ⟨x86, ex86⟩ : ∃ y : Int32, y = y78 + 1 := ⟨_, rfl⟩
    refine lv_iinc (v := x86) (lv' := [(3, .int x86), (2, .int x85), (0, .ref h), (1, .int a)]) hx hb dX0_sumOfShirts_21 hl (k := 1) rfl (by rw [ex86]; rfl) (by decide) rfl (fun ls hl => ?_)
    have k87 : Rg x86 1 2147483647 := rg_add ex86 k82 (rg_lit (n := 1) (by decide)) (by decide)
    refine lv_goto (tgt := 4) hx hb dX0_sumOfShirts_24 (by decide) ?_
    exact ih80 (x86, x85) _ _ _ (by show (2147483647 - (x86).toInt).toNat < (2147483647 - (y78).toInt).toNat; exact mu_up ex86 k82 k87 (by decide)) ⟨(rg_w k87 (by decide)), hP.sub (ws' := [(h, oX0 m1 m2 m3 mc sc tx nr ra ru dy wa se lw), (m1, .inl (cI, 50, .inl f1)), (m2, .inl (cI, 72, .inl f2)), (m3, .inl (cJ, 30, .inr (.inl f3)))]) [0, 1, 2, 3] rfl, hD.sub (ws' := [(h, oX0 m1 m2 m3 mc sc tx nr ra ru dy wa se lw), (m1, .inl (cI, 50, .inl f1)), (m2, .inl (cI, 72, .inl f2)), (m3, .inl (cJ, 30, .inr (.inl f3)))]) [0, 1, 2, 3] (by decide) rfl, hS, lv_sub (l' := [(3, .int x86), (2, .int x85), (0, .ref h), (1, .int a)]) hl [0, 1, 2, 3] rfl⟩

