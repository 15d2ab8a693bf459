def kwX0_shirtWithButton : List Cond := .code yX0_shirtWithButton cX0_shirtWithButton 3 (some .int) :: kG
theorem hdX0_shirtWithButton : yX0_shirtWithButton.cls ≠ "java/lang/invoke/MethodHandle" ∧ yX0_shirtWithButton.cls ≠ "java/lang/invoke/VarHandle" ∧ (parseMethodDescriptor yX0_shirtWithButton.desc).map (fun d => d.parameters.length) = some 1 := by decide +kernel
theorem gX0_shirtWithButton_X0_ofShirt : GoodIn kG (wsV RX0 75 RX0 yX0_ofShirt kwX0_ofShirt) := gK w15_10 (gK w15_11 (gK w15_12 (gK w0_19 (gK w15_13 gGG))))
theorem dX0_shirtWithButton_0 : decode cX0_shirtWithButton 0 = .ok (.iconst 0, 1) := by decide +kernel
theorem dX0_shirtWithButton_1 : decode cX0_shirtWithButton 1 = .ok (.istore_n 2, 1) := by decide +kernel
theorem dX0_shirtWithButton_2 : decode cX0_shirtWithButton 2 = .ok (.iload_n 2, 1) := by decide +kernel
theorem dX0_shirtWithButton_3 : decode cX0_shirtWithButton 3 = .ok (.aload_n 0, 1) := by decide +kernel
theorem dX0_shirtWithButton_4 : decode cX0_shirtWithButton 4 = .ok (.getfield 26, 3) := by decide +kernel
theorem dX0_shirtWithButton_7 : decode cX0_shirtWithButton 7 = .ok (.if_icmp .ge 21, 3) := by decide +kernel
theorem dX0_shirtWithButton_10 : decode cX0_shirtWithButton 10 = .ok (.aload_n 0, 1) := by decide +kernel
theorem dX0_shirtWithButton_11 : decode cX0_shirtWithButton 11 = .ok (.iload_n 2, 1) := by decide +kernel
theorem dX0_shirtWithButton_12 : decode cX0_shirtWithButton 12 = .ok (.iconst 4, 1) := by decide +kernel
theorem dX0_shirtWithButton_13 : decode cX0_shirtWithButton 13 = .ok (.invokevirtual 75, 3) := by decide +kernel
theorem dX0_shirtWithButton_16 : decode cX0_shirtWithButton 16 = .ok (.iload_n 1, 1) := by decide +kernel
theorem dX0_shirtWithButton_17 : decode cX0_shirtWithButton 17 = .ok (.if_icmp .ne 5, 3) := by decide +kernel
theorem dX0_shirtWithButton_20 : decode cX0_shirtWithButton 20 = .ok (.iload_n 2, 1) := by decide +kernel
theorem dX0_shirtWithButton_21 : decode cX0_shirtWithButton 21 = .ok (.ireturn, 1) := by decide +kernel
theorem dX0_shirtWithButton_22 : decode cX0_shirtWithButton 22 = .ok (.iinc 2 1, 3) := by decide +kernel
theorem dX0_shirtWithButton_25 : decode cX0_shirtWithButton 25 = .ok (.goto (-23), 3) := by decide +kernel
theorem dX0_shirtWithButton_28 : decode cX0_shirtWithButton 28 = .ok (.iconst (-1), 1) := by decide +kernel
theorem dX0_shirtWithButton_29 : decode cX0_shirtWithButton 29 = .ok (.ireturn, 1) := by decide +kernel
set_option maxHeartbeats 4000000 in
set_option maxRecDepth 100000 in
/-- Camp.shirtWithButton -/
theorem z_Camp_shirtWithButton (l : Launch) (D : va_G) (cI cJ cB cC : ClassId) (h : Nat) (m1 : Nat) (m2 : Nat) (m3 : Nat) (mc : Int32) (sc : Int32) (tx : Int32) (nr : Int32) (ra : Int32) (ru : Int32) (dy : Int32) (wa : Int32) (se : Int32) (lw : Option Nat) (f1 : Nat → Int32) (f2 : Nat → Int32) (f3 : Nat → Int64) (a : Int32) (sz : Nat)  : Met l yX0_shirtWithButton kwX0_shirtWithButton ({ frames := 1, cells := 0, slots := 0, locals := 23 } : Room) (kPre D (kT cI cJ cB cC) sz [(h, oX0 m1 m2 m3 mc sc tx nr ra ru dy wa se lw), (m1, kcI cI 50 f1), (m2, kcI cI 72 f2), (m3, kcJ cJ 30 f3)] [.ref h, .int a]) (va_Qi (fun (r : Int32) (_ : Unit) => Rg r (-1) 2147483646 ∧ F_z_Camp_shirtWithButton (sc : Int32).toInt (gT f2) (a : Int32).toInt = ((r : Int32).toInt)) (fun (_ : Unit) (t : State) => kB D (kT cI cJ cB cC) (va_A [(h, oX0 m1 m2 m3 mc sc tx nr ra ru dy wa se lw), (m1, kcI cI 50 f1), (m2, kcI cI 72 f2), (m3, kcJ cJ 30 f3)] sz) [(h, oX0 m1 m2 m3 mc sc tx nr ra ru dy wa se lw), (m1, kcI cI 50 f1), (m2, kcI cI 72 f2), (m3, kcJ cJ 30 f3)] t) (va_A [(h, oX0 m1 m2 m3 mc sc tx nr ra ru dy wa se lw), (m1, kcI cI 50 f1), (m2, kcI cI 72 f2), (m3, kcJ cJ 30 f3)] sz)) 0 0 (va_A [(h, oX0 m1 m2 m3 mc sc tx nr ra ru dy wa se lw), (m1, kcI cI 50 f1), (m2, kcI cI 72 f2), (m3, kcJ cJ 30 f3)] sz) := by
  refine Met.ofW (cc := cX0_shirtWithButton) (maxL := 3) (ret := (some .int)) (by decide) rfl ?_
  intro p e s m args below meth c s₁ B hml hv
  obtain ⟨rfl, hsz, hN, hE, hP, hK, hD0⟩ := hv
  have hx := B.exec
  have hb := B.bytes
  have hr := B.returns
  have hts := fun (w : Cond) (h : w ∈ kG) => atoms_spec (ws := kwX0_shirtWithButton) B.pre w (List.mem_cons_of_mem _ h)
  have hown : s.vm.findClass RX0 = some m.cls := findClass_of_methodNamed B.named
  subst hsz
  have hD := hD0.self (sz := s.heap.size)
  generalize hAe : va_A [(h, oX0 m1 m2 m3 mc sc tx nr ra ru dy wa se lw), (m1, kcI cI 50 f1), (m2, kcI cI 72 f2), (m3, kcJ cJ 30 f3)] s.heap.size = A at hD hE ⊢
  have hA : ∀ q : Nat, s.heap.size ≤ q → A q := fun q h => by rw [← hAe]; exact Or.inr h
  have hl := lv_entry ([.ref h, .int a]) (n := 3) (Nat.le_of_ble_eq_true rfl)
  rw [lg_entry_eq]
  generalize (lg_sl ([.ref h, .int a]) ++ List.replicate (3 - (lg_sl ([.ref h, .int a])).length) Slot.unset).toArray = ls at hl ⊢
  have hl : lv_has ls 3 [(0, .ref h), (1, .int a)] := hl
  obtain ⟨H, hH0⟩ : ∃ H, H = s.heap := ⟨_, rfl⟩
  have hS : va_S A s.heap H [] := by rw [hH0]; exact va_S.rf
  have hP : va_P D vwCl [(h, oX0 m1 m2 m3 mc sc tx nr ra ru dy wa se lw), (m1, kcI cI 50 f1), (m2, kcI cI 72 f2), (m3, kcJ cJ 30 f3)] H := by rw [hH0]; exact hP
  refine kHeap hH0 ?_
  clear hH0
  refine lv_iconst (v := 0) hx hb dX0_shirtWithButton_0 (by decide) ?_
  refine lv_istore_n (lv' := [(2, .int 0), (0, .ref h), (1, .int a)]) hx hb dX0_shirtWithButton_1 rfl hl (by decide) rfl (fun ls hl => ?_)
  refine k_loop (hd := 2) (fun (y79 : Int32) => (2147483647 - (y79).toInt).toNat) (fun (y79 : Int32) (H : Heap) (locs : List Loc) (ls : Array Slot) => (F_z_Camp_shirtWithButton sc.toInt (gT f2) a.toInt = F_z_Camp_shirtWithButton_l1 sc.toInt (gT f2) a.toInt (y79.toInt)) ∧ Rg y79 0 2147483647 ∧ va_P D vwCl [(h, oX0 m1 m2 m3 mc sc tx nr ra ru dy wa se lw), (m1, kcI cI 50 f1), (m2, kcI cI 72 f2), (m3, kcJ cJ 30 f3)] H ∧ va_D A [(h, oX0 m1 m2 m3 mc sc tx nr ra ru dy wa se lw), (m1, kcI cI 50 f1), (m2, kcI cI 72 f2), (m3, kcJ cJ 30 f3)] ∧ va_S A s.heap H locs ∧ lv_has ls 3 [(2, .int y79), (0, .ref h), (1, .int a)]) ((0 : Int32)) ⟨rfl, (rg_w (rg_lit (n := 0) (by decide)) (by decide)), hP.sub (ws' := [(h, oX0 m1 m2 m3 mc sc tx nr ra ru dy wa se lw), (m1, kcI cI 50 f1), (m2, kcI cI 72 f2), (m3, kcJ cJ 30 f3)]) [0, 1, 2, 3] rfl, hD.sub (ws' := [(h, oX0 m1 m2 m3 mc sc tx nr ra ru dy wa se lw), (m1, kcI cI 50 f1), (m2, kcI cI 72 f2), (m3, kcJ cJ 30 f3)]) [0, 1, 2, 3] (by decide) rfl, hS, lv_sub (l' := [(2, .int 0), (0, .ref h), (1, .int a)]) hl [0, 1, 2] rfl⟩ (fun u H locs ls hI ih80 => ?_)
  clear hP hD hS hl
  obtain ⟨y79, rfl⟩ : ∃ z, z = u := ⟨_, rfl⟩
  obtain ⟨hF1, hy79, hP, hD, hS, hl⟩ := hI
  have hP : va_P D vwCl [(h, oX0 m1 m2 m3 mc sc tx nr ra ru dy wa se lw), (m1, kcI cI 50 f1), (m2, kcI cI 72 f2), (m3, kcJ cJ 30 f3)] H := hP
  have hD : va_D A [(h, oX0 m1 m2 m3 mc sc tx nr ra ru dy wa se lw), (m1, kcI cI 50 f1), (m2, kcI cI 72 f2), (m3, kcJ cJ 30 f3)] := hD
  have hl : lv_has ls 3 [(2, .int y79), (0, .ref h), (1, .int a)] := hl
  refine lv_iload_n hx hb dX0_shirtWithButton_2 rfl (lv_at hl 0 rfl) ?_
  refine lv_aload_n hx hb dX0_shirtWithButton_3 rfl (lv_at hl 1 rfl) ?_
  refine va_get (D := D) (ci := 0) (v := .int sc) (C := RX0) (T := TX0) (N := 13) hx hb hts iG_X0 hown hK hP 0 rfl rfl 4 (by decide) (hts _ w2_6) (fun _ h9 => h9) rfl dX0_shirtWithButton_4 ?_
  refine lv_icmp_ge (tgt := 28) hx hb dX0_shirtWithButton_7 (by decide) (fun c81 => ?_) (fun c81 => ?_)
  · skip
    refine lv_iconst (v := (-1)) hx hb dX0_shirtWithButton_28 (by decide) ?_
    have hP9 := hP.sub (ws' := [(h, oX0 m1 m2 m3 mc sc tx nr ra ru dy wa se lw), (m1, kcI cI 50 f1), (m2, kcI cI 72 f2), (m3, kcJ cJ 30 f3)]) [0, 1, 2, 3] rfl
    have hD9 := hD.sub (ws' := [(h, oX0 m1 m2 m3 mc sc tx nr ra ru dy wa se lw), (m1, kcI cI 50 f1), (m2, kcI cI 72 f2), (m3, kcJ cJ 30 f3)]) [0, 1, 2, 3] (by decide) rfl
    exact W.iret (v := (-1)) hx hb hr (fun t ht hW => ⟨⟨(-1), (), rfl, ⟨(rg_w (rg_lit (n := -1) (by decide)) (by decide)), (hF1.trans (kIter_out (kif_t (leI c81) rfl)))⟩, by rw [ht]; exact hP9, va_K.moved hW.alike hK, hD9⟩, hS.F ht⟩) hS.2.2 dX0_shirtWithButton_29
  · skip
    have k82 : Rg y79 0 2147483646 := rg_l1 (nleI c81) hy79 (rg_any sc) (by decide)
    have k83 : Rg sc 1 2147483647 := rg_l2 (nleI c81) hy79 (rg_any sc) (by decide)
    refine lv_aload_n hx hb dX0_shirtWithButton_10 rfl (lv_at hl 1 rfl) ?_
    refine lv_iload_n hx hb dX0_shirtWithButton_11 rfl (lv_at hl 0 rfl) ?_
    refine lv_iconst (v := 4) hx hb dX0_shirtWithButton_12 (by decide) ?_
    refine kpurei (wc := [(h, oX0 m1 m2 m3 mc sc tx nr ra ru dy wa se lw), (m1, kcI cI 50 f1), (m2, kcI cI 72 f2), (m3, kcJ cJ 30 f3)]) hP hD hS hA [0, 1, 2, 3] rfl (by decide) (fun hPc hDc hFc => va_runV (As := [.int y79, .int 4]) (rest := []) ⟨hx, hb, hml, hown, hts⟩ (z_Camp_ofShirt l D cI cJ cB cC h m1 m2 m3 mc sc tx nr ra ru dy wa se lw f1 f2 f3 y79 4 H.size) (cwV 2 hts gX0_shirtWithButton_X0_ofShirt rfl rfl rfl ⟨rfl, hdX0_ofShirt⟩ ⟨Nat.le_of_ble_eq_true rfl, Nat.le_of_ble_eq_true rfl⟩) ⟨kBlind, va_recv hK hPc (ci := 0) (q0 := 0) rfl rfl, fun U hU hW => ⟨rfl, by rw [hU], hN.warm hW, hE.pass hS hFc hW hU, by rw [hU]; exact hPc, va_K.moved hW.alike hK, hDc⟩⟩ rfl rfl hl.1 rfl (lv_room (Nat.le_of_ble_eq_true rfl)) dX0_shirtWithButton_13 ⟨Nat.le_of_ble_eq_true rfl, Nat.le_of_ble_eq_true rfl⟩) (fun r84 u H locs hw hP hS => ?_)
    have k85 := hw
    refine lv_iload_n hx hb dX0_shirtWithButton_16 rfl (lv_at hl 2 rfl) ?_
    refine lv_icmp_ne (tgt := 22) hx hb dX0_shirtWithButton_17 (by decide) (fun c86 => ?_) (fun c86 => ?_)
    · skip
      obtain ⟨x87, ex87⟩ : ∃ y : Int32, y = y79 + 1 := ⟨_, rfl⟩
      refine lv_iinc (v := x87) (lv' := [(2, .int x87), (0, .ref h), (1, .int a)]) hx hb dX0_shirtWithButton_22 hl (k := 0) rfl (by rw [ex87]; rfl) (by decide) rfl (fun ls hl => ?_)
      have k88 : Rg x87 1 2147483647 := rg_add ex87 k82 (rg_lit (n := 1) (by decide)) (by decide)
      refine lv_goto (tgt := 2) hx hb dX0_shirtWithButton_25 (by decide) ?_
      exact ih80 (x87) _ _ _ (by show (2147483647 - (x87).toInt).toNat < (2147483647 - (y79).toInt).toNat; exact mu_up ex87 k82 k88 (by decide)) ⟨(hF1.trans (kIter_go (kif_f (xF_le c81) (kLet_eq (k85).symm (kif_f (neI c86) (kLet_eq (ti_add ex87 k82 (rg_lit (n := 1) (by decide)) (by decide) rfl rfl) rfl)))))), (rg_w k88 (by decide)), hP.sub (ws' := [(h, oX0 m1 m2 m3 mc sc tx nr ra ru dy wa se lw), (m1, kcI cI 50 f1), (m2, kcI cI 72 f2), (m3, kcJ cJ 30 f3)]) [0, 1, 2, 3] rfl, hD.sub (ws' := [(h, oX0 m1 m2 m3 mc sc tx nr ra ru dy wa se lw), (m1, kcI cI 50 f1), (m2, kcI cI 72 f2), (m3, kcJ cJ 30 f3)]) [0, 1, 2, 3] (by decide) rfl, hS, lv_sub (l' := [(2, .int x87), (0, .ref h), (1, .int a)]) hl [0, 1, 2] rfl⟩
    · skip
      refine lv_iload_n hx hb dX0_shirtWithButton_20 rfl (lv_at hl 0 rfl) ?_
      have hP9 := hP.sub (ws' := [(h, oX0 m1 m2 m3 mc sc tx nr ra ru dy wa se lw), (m1, kcI cI 50 f1), (m2, kcI cI 72 f2), (m3, kcJ cJ 30 f3)]) [0, 1, 2, 3] rfl
      have hD9 := hD.sub (ws' := [(h, oX0 m1 m2 m3 mc sc tx nr ra ru dy wa se lw), (m1, kcI cI 50 f1), (m2, kcI cI 72 f2), (m3, kcJ cJ 30 f3)]) [0, 1, 2, 3] (by decide) rfl
      exact W.iret (v := y79) hx hb hr (fun t ht hW => ⟨⟨y79, (), rfl, ⟨(rg_w k82 (by decide)), (hF1.trans (kIter_out (kif_f (xF_le c81) (kLet_eq (k85).symm (kif_t (eqI c86) rfl)))))⟩, by rw [ht]; exact hP9, va_K.moved hW.alike hK, hD9⟩, hS.F ht⟩) hS.2.2 dX0_shirtWithButton_21

def kwX0_shirtsInChest : List Cond := .code yX0_shirtsInChest cX0_shirtsInChest 3 (some .int) :: kG
theorem hdX0_shirtsInChest : yX0_shirtsInChest.cls ≠ "java/lang/invoke/MethodHandle" ∧ yX0_shirtsInChest.cls ≠ "java/lang/invoke/VarHandle" ∧ (parseMethodDescriptor yX0_shirtsInChest.desc).map (fun d => d.parameters.length) = some 0 := by decide +kernel
theorem gX0_shirtsInChest_X0_isInChest : GoodIn kG (wsV RX0 155 RX0 yX0_isInChest kwX0_isInChest) := gK w45_5 (gK w15_7 (gK w15_8 (gK w0_19 (gK w15_9 gGG))))
theorem dX0_shirtsInChest_0 : decode cX0_shirtsInChest 0 = .ok (.iconst 0, 1) := by decide +kernel
theorem dX0_shirtsInChest_1 : decode cX0_shirtsInChest 1 = .ok (.istore_n 1, 1) := by decide +kernel
theorem dX0_shirtsInChest_2 : decode cX0_shirtsInChest 2 = .ok (.iconst 0, 1) := by decide +kernel
theorem dX0_shirtsInChest_3 : decode cX0_shirtsInChest 3 = .ok (.istore_n 2, 1) := by decide +kernel
theorem dX0_shirtsInChest_4 : decode cX0_shirtsInChest 4 = .ok (.iload_n 2, 1) := by decide +kernel
theorem dX0_shirtsInChest_5 : decode cX0_shirtsInChest 5 = .ok (.aload_n 0, 1) := by decide +kernel
theorem dX0_shirtsInChest_6 : decode cX0_shirtsInChest 6 = .ok (.getfield 26, 3) := by decide +kernel
theorem dX0_shirtsInChest_9 : decode cX0_shirtsInChest 9 = .ok (.if_icmp .ge 20, 3) := by decide +kernel
theorem dX0_shirtsInChest_12 : decode cX0_shirtsInChest 12 = .ok (.aload_n 0, 1) := by decide +kernel
theorem dX0_shirtsInChest_13 : decode cX0_shirtsInChest 13 = .ok (.iload_n 2, 1) := by decide +kernel
theorem dX0_shirtsInChest_14 : decode cX0_shirtsInChest 14 = .ok (.invokevirtual 155, 3) := by decide +kernel
theorem dX0_shirtsInChest_17 : decode cX0_shirtsInChest 17 = .ok (.ifCond .eq 6, 3) := by decide +kernel
theorem dX0_shirtsInChest_20 : decode cX0_shirtsInChest 20 = .ok (.iinc 1 1, 3) := by decide +kernel
theorem dX0_shirtsInChest_23 : decode cX0_shirtsInChest 23 = .ok (.iinc 2 1, 3) := by decide +kernel
theorem dX0_shirtsInChest_26 : decode cX0_shirtsInChest 26 = .ok (.goto (-22), 3) := by decide +kernel
theorem dX0_shirtsInChest_29 : decode cX0_shirtsInChest 29 = .ok (.iload_n 1, 1) := by decide +kernel
theorem dX0_shirtsInChest_30 : decode cX0_shirtsInChest 30 = .ok (.ireturn, 1) := by decide +kernel
set_option maxHeartbeats 4000000 in
set_option maxRecDepth 100000 in
/-- Camp.shirtsInChest -/
theorem z_Camp_shirtsInChest (l : Launch) (D : va_G) (cI cJ cB cC : ClassId) (h : Nat) (m1 : Nat) (m2 : Nat) (m3 : Nat) (mc : Int32) (sc : Int32) (tx : Int32) (nr : Int32) (ra : Int32) (ru : Int32) (dy : Int32) (wa : Int32) (se : Int32) (lw : Option Nat) (f1 : Nat → Int32) (f2 : Nat → Int32) (f3 : Nat → Int64) (sz : Nat)  : Met l yX0_shirtsInChest kwX0_shirtsInChest ({ frames := 2, cells := 0, slots := 0, locals := 44 } : Room) (kPre D (kT cI cJ cB cC) sz [(h, oX0 m1 m2 m3 mc sc tx nr ra ru dy wa se lw), (m1, kcI cI 50 f1), (m2, kcI cI 72 f2), (m3, kcJ cJ 30 f3)] [.ref h]) (va_Qi (fun (r : Int32) (_ : Unit) => F_z_Camp_shirtsInChest (sc : Int32).toInt (gT f2) = ((r : Int32).toInt)) (fun (_ : Unit) (t : State) => kB D (kT cI cJ cB cC) (va_A [(h, oX0 m1 m2 m3 mc sc tx nr ra ru dy wa se lw), (m1, kcI cI 50 f1), (m2, kcI cI 72 f2), (m3, kcJ cJ 30 f3)] sz) [(h, oX0 m1 m2 m3 mc sc tx nr ra ru dy wa se lw), (m1, kcI cI 50 f1), (m2, kcI cI 72 f2), (m3, kcJ cJ 30 f3)] t) (va_A [(h, oX0 m1 m2 m3 mc sc tx nr ra ru dy wa se lw), (m1, kcI cI 50 f1), (m2, kcI cI 72 f2), (m3, kcJ cJ 30 f3)] sz)) 0 0 (va_A [(h, oX0 m1 m2 m3 mc sc tx nr ra ru dy wa se lw), (m1, kcI cI 50 f1), (m2, kcI cI 72 f2), (m3, kcJ cJ 30 f3)] sz) := by
  refine Met.ofW (cc := cX0_shirtsInChest) (maxL := 3) (ret := (some .int)) (by decide) rfl ?_
  intro p e s m args below meth c s₁ B hml hv
  obtain ⟨rfl, hsz, hN, hE, hP, hK, hD0⟩ := hv
  have hx := B.exec
  have hb := B.bytes
  have hr := B.returns
  have hts := fun (w : Cond) (h : w ∈ kG) => atoms_spec (ws := kwX0_shirtsInChest) B.pre w (List.mem_cons_of_mem _ h)
  have hown : s.vm.findClass RX0 = some m.cls := findClass_of_methodNamed B.named
  subst hsz
  have hD := hD0.self (sz := s.heap.size)
  generalize hAe : va_A [(h, oX0 m1 m2 m3 mc sc tx nr ra ru dy wa se lw), (m1, kcI cI 50 f1), (m2, kcI cI 72 f2), (m3, kcJ cJ 30 f3)] s.heap.size = A at hD hE ⊢
  have hA : ∀ q : Nat, s.heap.size ≤ q → A q := fun q h => by rw [← hAe]; exact Or.inr h
  have hl := lv_entry ([.ref h]) (n := 3) (Nat.le_of_ble_eq_true rfl)
  rw [lg_entry_eq]
  generalize (lg_sl ([.ref h]) ++ List.replicate (3 - (lg_sl ([.ref h])).length) Slot.unset).toArray = ls at hl ⊢
  have hl : lv_has ls 3 [(0, .ref h)] := hl
  obtain ⟨H, hH0⟩ : ∃ H, H = s.heap := ⟨_, rfl⟩
  have hS : va_S A s.heap H [] := by rw [hH0]; exact va_S.rf
  have hP : va_P D vwCl [(h, oX0 m1 m2 m3 mc sc tx nr ra ru dy wa se lw), (m1, kcI cI 50 f1), (m2, kcI cI 72 f2), (m3, kcJ cJ 30 f3)] H := by rw [hH0]; exact hP
  refine kHeap hH0 ?_
  clear hH0
  refine lv_iconst (v := 0) hx hb dX0_shirtsInChest_0 (by decide) ?_
  refine lv_istore_n (lv' := [(1, .int 0), (0, .ref h)]) hx hb dX0_shirtsInChest_1 rfl hl (by decide) rfl (fun ls hl => ?_)
  refine lv_iconst (v := 0) hx hb dX0_shirtsInChest_2 (by decide) ?_
  refine lv_istore_n (lv' := [(2, .int 0), (1, .int 0), (0, .ref h)]) hx hb dX0_shirtsInChest_3 rfl hl (by decide) rfl (fun ls hl => ?_)
  refine k_loop (hd := 4) (fun (u : Int32 × Int32) => match u with | (y149, y150) => (2147483647 - (y149).toInt).toNat) (fun (u : Int32 × Int32) (H : Heap) (locs : List Loc) (ls : Array Slot) => match u with | (y149, y150) => (F_z_Camp_shirtsInChest sc.toInt (gT f2) = F_z_Camp_shirtsInChest_l1 sc.toInt (gT f2) (y149.toInt, y150.toInt)) ∧ Rg y149 0 2147483647 ∧ va_P D vwCl [(h, oX0 m1 m2 m3 mc sc tx nr ra ru dy wa se lw), (m1, kcI cI 50 f1), (m2, kcI cI 72 f2), (m3, kcJ cJ 30 f3)] H ∧ va_D A [(h, oX0 m1 m2 m3 mc sc tx nr ra ru dy wa se lw), (m1, kcI cI 50 f1), (m2, kcI cI 72 f2), (m3, kcJ cJ 30 f3)] ∧ va_S A s.heap H locs ∧ lv_has ls 3 [(2, .int y149), (1, .int y150), (0, .ref h)]) ((0 : Int32), (0 : Int32)) ⟨rfl, (rg_w (rg_lit (n := 0) (by decide)) (by decide)), hP.sub (ws' := [(h, oX0 m1 m2 m3 mc sc tx nr ra ru dy wa se lw), (m1, kcI cI 50 f1), (m2, kcI cI 72 f2), (m3, kcJ cJ 30 f3)]) [0, 1, 2, 3] rfl, hD.sub (ws' := [(h, oX0 m1 m2 m3 mc sc tx nr ra ru dy wa se lw), (m1, kcI cI 50 f1), (m2, kcI cI 72 f2), (m3, kcJ cJ 30 f3)]) [0, 1, 2, 3] (by decide) rfl, hS, lv_sub (l' := [(2, .int 0), (1, .int 0), (0, .ref h)]) hl [0, 1, 2] rfl⟩ (fun u H locs ls hI ih151 => ?_)
  clear hP hD hS hl
  obtain ⟨y149, y150⟩ := u
  obtain ⟨hF1, hy149, hP, hD, hS, hl⟩ := hI
  have hP : va_P D vwCl [(h, oX0 m1 m2 m3 mc sc tx nr ra ru dy wa se lw), (m1, kcI cI 50 f1), (m2, kcI cI 72 f2), (m3, kcJ cJ 30 f3)] H := hP
  have hD : va_D A [(h, oX0 m1 m2 m3 mc sc tx nr ra ru dy wa se lw), (m1, kcI cI 50 f1), (m2, kcI cI 72 f2), (m3, kcJ cJ 30 f3)] := hD
  have hl : lv_has ls 3 [(2, .int y149), (1, .int y150), (0, .ref h)] := hl
  refine lv_iload_n hx hb dX0_shirtsInChest_4 rfl (lv_at hl 0 rfl) ?_
  refine lv_aload_n hx hb dX0_shirtsInChest_5 rfl (lv_at hl 2 rfl) ?_
  refine va_get (D := D) (ci := 0) (v := .int sc) (C := RX0) (T := TX0) (N := 13) hx hb hts iG_X0 hown hK hP 0 rfl rfl 4 (by decide) (hts _ w2_6) (fun _ h9 => h9) rfl dX0_shirtsInChest_6 ?_
  refine lv_icmp_ge (tgt := 29) hx hb dX0_shirtsInChest_9 (by decide) (fun c152 => ?_) (fun c152 => ?_)
  · skip
    refine lv_iload_n hx hb dX0_shirtsInChest_29 rfl (lv_at hl 1 rfl) ?_
    have hP9 := hP.sub (ws' := [(h, oX0 m1 m2 m3 mc sc tx nr ra ru dy wa se lw), (m1, kcI cI 50 f1), (m2, kcI cI 72 f2), (m3, kcJ cJ 30 f3)]) [0, 1, 2, 3] rfl
    have hD9 := hD.sub (ws' := [(h, oX0 m1 m2 m3 mc sc tx nr ra ru dy wa se lw), (m1, kcI cI 50 f1), (m2, kcI cI 72 f2), (m3, kcJ cJ 30 f3)]) [0, 1, 2, 3] (by decide) rfl
    exact W.iret (v := y150) hx hb hr (fun t ht hW => ⟨⟨y150, (), rfl, (hF1.trans (kIter_out (kC_eq rfl (kif_t (leI c152) rfl)))), by rw [ht]; exact hP9, va_K.moved hW.alike hK, hD9⟩, hS.F ht⟩) hS.2.2 dX0_shirtsInChest_30
  · skip
    have k153 : Rg y149 0 2147483646 := rg_l1 (nleI c152) hy149 (rg_any sc) (by decide)
    have k154 : Rg sc 1 2147483647 := rg_l2 (nleI c152) hy149 (rg_any sc) (by decide)
    refine lv_aload_n hx hb dX0_shirtsInChest_12 rfl (lv_at hl 2 rfl) ?_
    refine lv_iload_n hx hb dX0_shirtsInChest_13 rfl (lv_at hl 0 rfl) ?_
    refine kpurei (wc := [(h, oX0 m1 m2 m3 mc sc tx nr ra ru dy wa se lw), (m1, kcI cI 50 f1), (m2, kcI cI 72 f2), (m3, kcJ cJ 30 f3)]) hP hD hS hA [0, 1, 2, 3] rfl (by decide) (fun hPc hDc hFc => va_runV (As := [.int y149]) (rest := []) ⟨hx, hb, hml, hown, hts⟩ (z_Camp_isInChest l D cI cJ cB cC h m1 m2 m3 mc sc tx nr ra ru dy wa se lw f1 f2 f3 y149 H.size) (cwV 1 hts gX0_shirtsInChest_X0_isInChest rfl rfl rfl ⟨rfl, hdX0_isInChest⟩ ⟨Nat.le_of_ble_eq_true rfl, Nat.le_of_ble_eq_true rfl⟩) ⟨kBlind, va_recv hK hPc (ci := 0) (q0 := 0) rfl rfl, fun U hU hW => ⟨rfl, by rw [hU], hN.warm hW, hE.pass hS hFc hW hU, by rw [hU]; exact hPc, va_K.moved hW.alike hK, hDc⟩⟩ rfl rfl hl.1 rfl (lv_room (Nat.le_of_ble_eq_true rfl)) dX0_shirtsInChest_14 ⟨Nat.le_of_ble_eq_true rfl, Nat.le_of_ble_eq_true rfl⟩) (fun r155 u H locs hw hP hS => ?_)
    obtain ⟨k156, hw⟩ := hw
    rcases hw with rfl | rfl
    · skip
      refine lv_if_eq (tgt := 23) hx hb dX0_shirtsInChest_17 (by decide) (fun _ => ?_) (fun c159 => absurd (by decide) c159)
      obtain ⟨x160, ex160⟩ : ∃ y : Int32, y = y149 + 1 := ⟨_, rfl⟩
      refine lv_iinc (v := x160) (lv' := [(2, .int x160), (1, .int y150), (0, .ref h)]) hx hb dX0_shirtsInChest_23 hl (k := 0) rfl (by rw [ex160]; rfl) (by decide) rfl (fun ls hl => ?_)
      have k161 : Rg x160 1 2147483647 := rg_add ex160 k153 (rg_lit (n := 1) (by decide)) (by decide)
      refine lv_goto (tgt := 4) hx hb dX0_shirtsInChest_26 (by decide) ?_
      exact ih151 (x160, y150) _ _ _ (by show (2147483647 - (x160).toInt).toNat < (2147483647 - (y149).toInt).toNat; exact mu_up ex160 k153 k161 (by decide)) ⟨(hF1.trans (kIter_go (kC_eq rfl (kif_f (xF_le c152) (kLet_eq (k156).symm (kif_t rfl (kLet_eq (ti_add ex160 k153 (rg_lit (n := 1) (by decide)) (by decide) rfl rfl) rfl))))))), (rg_w k161 (by decide)), hP.sub (ws' := [(h, oX0 m1 m2 m3 mc sc tx nr ra ru dy wa se lw), (m1, kcI cI 50 f1), (m2, kcI cI 72 f2), (m3, kcJ cJ 30 f3)]) [0, 1, 2, 3] rfl, hD.sub (ws' := [(h, oX0 m1 m2 m3 mc sc tx nr ra ru dy wa se lw), (m1, kcI cI 50 f1), (m2, kcI cI 72 f2), (m3, kcJ cJ 30 f3)]) [0, 1, 2, 3] (by decide) rfl, hS, lv_sub (l' := [(2, .int x160), (1, .int y150), (0, .ref h)]) hl [0, 1, 2] rfl⟩
    · skip
      refine lv_if_eq (tgt := 23) hx hb dX0_shirtsInChest_17 (by decide) (fun c164 => absurd c164 (by decide)) (fun _ => ?_)
      obtain ⟨x165, ex165⟩ : ∃ y : Int32, y = y150 + 1 := ⟨_, rfl⟩
      refine lv_iinc (v := x165) (lv' := [(1, .int x165), (2, .int y149), (0, .ref h)]) hx hb dX0_shirtsInChest_20 hl (k := 1) rfl (by rw [ex165]; rfl) (by decide) rfl (fun ls hl => ?_)
      obtain ⟨x166, ex166⟩ : ∃ y : Int32, y = y149 + 1 := ⟨_, rfl⟩
      refine lv_iinc (v := x166) (lv' := [(2, .int x166), (1, .int x165), (0, .ref h)]) hx hb dX0_shirtsInChest_23 hl (k := 1) rfl (by rw [ex166]; rfl) (by decide) rfl (fun ls hl => ?_)
      have k167 : Rg x166 1 2147483647 := rg_add ex166 k153 (rg_lit (n := 1) (by decide)) (by decide)
      refine lv_goto (tgt := 4) hx hb dX0_shirtsInChest_26 (by decide) ?_
      exact ih151 (x166, x165) _ _ _ (by show (2147483647 - (x166).toInt).toNat < (2147483647 - (y149).toInt).toNat; exact mu_up ex166 k153 k167 (by decide)) ⟨(hF1.trans (kIter_go (kC_eq rfl (kif_f (xF_le c152) (kLet_eq (k156).symm (kif_f (by decide) (kLet_eq (ke_wadd ex165) (kLet_eq (ti_add ex166 k153 (rg_lit (n := 1) (by decide)) (by decide) rfl rfl) rfl)))))))), (rg_w k167 (by decide)), hP.sub (ws' := [(h, oX0 m1 m2 m3 mc sc tx nr ra ru dy wa se lw), (m1, kcI cI 50 f1), (m2, kcI cI 72 f2), (m3, kcJ cJ 30 f3)]) [0, 1, 2, 3] rfl, hD.sub (ws' := [(h, oX0 m1 m2 m3 mc sc tx nr ra ru dy wa se lw), (m1, kcI cI 50 f1), (m2, kcI cI 72 f2), (m3, kcJ cJ 30 f3)]) [0, 1, 2, 3] (by decide) rfl, hS, lv_sub (l' := [(2, .int x166), (1, .int x165), (0, .ref h)]) hl [0, 1, 2] rfl⟩

def kwX0_bareMen : List Cond := .code yX0_bareMen cX0_bareMen 3 (some .int) :: kG
theorem hdX0_bareMen : yX0_bareMen.cls ≠ "java/lang/invoke/MethodHandle" ∧ yX0_bareMen.cls ≠ "java/lang/invoke/VarHandle" ∧ (parseMethodDescriptor yX0_bareMen.desc).map (fun d => d.parameters.length) = some 0 := by decide +kernel
theorem gX0_bareMen_X0_isBare : GoodIn kG (wsV RX0 171 RX0 yX0_isBare kwX0_isBare) := gK w53_15 (gK w14_21 (gK w14_22 (gK w0_19 (gK w14_23 gGG))))
theorem dX0_bareMen_0 : decode cX0_bareMen 0 = .ok (.iconst 0, 1) := by decide +kernel
theorem dX0_bareMen_1 : decode cX0_bareMen 1 = .ok (.istore_n 1, 1) := by decide +kernel
theorem dX0_bareMen_2 : decode cX0_bareMen 2 = .ok (.iconst 0, 1) := by decide +kernel
theorem dX0_bareMen_3 : decode cX0_bareMen 3 = .ok (.istore_n 2, 1) := by decide +kernel
theorem dX0_bareMen_4 : decode cX0_bareMen 4 = .ok (.iload_n 2, 1) := by decide +kernel
theorem dX0_bareMen_5 : decode cX0_bareMen 5 = .ok (.aload_n 0, 1) := by decide +kernel
theorem dX0_bareMen_6 : decode cX0_bareMen 6 = .ok (.getfield 22, 3) := by decide +kernel
theorem dX0_bareMen_9 : decode cX0_bareMen 9 = .ok (.if_icmp .ge 20, 3) := by decide +kernel
theorem dX0_bareMen_12 : decode cX0_bareMen 12 = .ok (.aload_n 0, 1) := by decide +kernel
theorem dX0_bareMen_13 : decode cX0_bareMen 13 = .ok (.iload_n 2, 1) := by decide +kernel
theorem dX0_bareMen_14 : decode cX0_bareMen 14 = .ok (.invokevirtual 171, 3) := by decide +kernel
theorem dX0_bareMen_17 : decode cX0_bareMen 17 = .ok (.ifCond .eq 6, 3) := by decide +kernel
theorem dX0_bareMen_20 : decode cX0_bareMen 20 = .ok (.iinc 1 1, 3) := by decide +kernel
theorem dX0_bareMen_23 : decode cX0_bareMen 23 = .ok (.iinc 2 1, 3) := by decide +kernel
theorem dX0_bareMen_26 : decode cX0_bareMen 26 = .ok (.goto (-22), 3) := by decide +kernel
theorem dX0_bareMen_29 : decode cX0_bareMen 29 = .ok (.iload_n 1, 1) := by decide +kernel
theorem dX0_bareMen_30 : decode cX0_bareMen 30 = .ok (.ireturn, 1) := by decide +kernel
set_option maxHeartbeats 4000000 in
set_option maxRecDepth 100000 in
/-- Camp.bareMen -/
theorem z_Camp_bareMen (l : Launch) (D : va_G) (cI cJ cB cC : ClassId) (h : Nat) (m1 : Nat) (m2 : Nat) (m3 : Nat) (mc : Int32) (sc : Int32) (tx : Int32) (nr : Int32) (ra : Int32) (ru : Int32) (dy : Int32) (wa : Int32) (se : Int32) (lw : Option Nat) (f1 : Nat → Int32) (f2 : Nat → Int32) (f3 : Nat → Int64) (sz : Nat)  : Met l yX0_bareMen kwX0_bareMen ({ frames := 2, cells := 0, slots := 0, locals := 44 } : Room) (kPre D (kT cI cJ cB cC) sz [(h, oX0 m1 m2 m3 mc sc tx nr ra ru dy wa se lw), (m1, kcI cI 50 f1), (m2, kcI cI 72 f2), (m3, kcJ cJ 30 f3)] [.ref h]) (va_Qi (fun (r : Int32) (_ : Unit) => F_z_Camp_bareMen (mc : Int32).toInt (gT f1) = ((r : Int32).toInt)) (fun (_ : Unit) (t : State) => kB D (kT cI cJ cB cC) (va_A [(h, oX0 m1 m2 m3 mc sc tx nr ra ru dy wa se lw), (m1, kcI cI 50 f1), (m2, kcI cI 72 f2), (m3, kcJ cJ 30 f3)] sz) [(h, oX0 m1 m2 m3 mc sc tx nr ra ru dy wa se lw), (m1, kcI cI 50 f1), (m2, kcI cI 72 f2), (m3, kcJ cJ 30 f3)] t) (va_A [(h, oX0 m1 m2 m3 mc sc tx nr ra ru dy wa se lw), (m1, kcI cI 50 f1), (m2, kcI cI 72 f2), (m3, kcJ cJ 30 f3)] sz)) 0 0 (va_A [(h, oX0 m1 m2 m3 mc sc tx nr ra ru dy wa se lw), (m1, kcI cI 50 f1), (m2, kcI cI 72 f2), (m3, kcJ cJ 30 f3)] sz) := by
  refine Met.ofW (cc := cX0_bareMen) (maxL := 3) (ret := (some .int)) (by decide) rfl ?_
  intro p e s m args below meth c s₁ B hml hv
  obtain ⟨rfl, hsz, hN, hE, hP, hK, hD0⟩ := hv
  have hx := B.exec
  have hb := B.bytes
  have hr := B.returns
  have hts := fun (w : Cond) (h : w ∈ kG) => atoms_spec (ws := kwX0_bareMen) B.pre w (List.mem_cons_of_mem _ h)
  have hown : s.vm.findClass RX0 = some m.cls := findClass_of_methodNamed B.named
  subst hsz
  have hD := hD0.self (sz := s.heap.size)
  generalize hAe : va_A [(h, oX0 m1 m2 m3 mc sc tx nr ra ru dy wa se lw), (m1, kcI cI 50 f1), (m2, kcI cI 72 f2), (m3, kcJ cJ 30 f3)] s.heap.size = A at hD hE ⊢
  have hA : ∀ q : Nat, s.heap.size ≤ q → A q := fun q h => by rw [← hAe]; exact Or.inr h
  have hl := lv_entry ([.ref h]) (n := 3) (Nat.le_of_ble_eq_true rfl)
  rw [lg_entry_eq]
  generalize (lg_sl ([.ref h]) ++ List.replicate (3 - (lg_sl ([.ref h])).length) Slot.unset).toArray = ls at hl ⊢
  have hl : lv_has ls 3 [(0, .ref h)] := hl
  obtain ⟨H, hH0⟩ : ∃ H, H = s.heap := ⟨_, rfl⟩
  have hS : va_S A s.heap H [] := by rw [hH0]; exact va_S.rf
  have hP : va_P D vwCl [(h, oX0 m1 m2 m3 mc sc tx nr ra ru dy wa se lw), (m1, kcI cI 50 f1), (m2, kcI cI 72 f2), (m3, kcJ cJ 30 f3)] H := by rw [hH0]; exact hP
  refine kHeap hH0 ?_
  clear hH0
  refine lv_iconst (v := 0) hx hb dX0_bareMen_0 (by decide) ?_
  refine lv_istore_n (lv' := [(1, .int 0), (0, .ref h)]) hx hb dX0_bareMen_1 rfl hl (by decide) rfl (fun ls hl => ?_)
  refine lv_iconst (v := 0) hx hb dX0_bareMen_2 (by decide) ?_
  refine lv_istore_n (lv' := [(2, .int 0), (1, .int 0), (0, .ref h)]) hx hb dX0_bareMen_3 rfl hl (by decide) rfl (fun ls hl => ?_)
  refine k_loop (hd := 4) (fun (u : Int32 × Int32) => match u with | (y149, y150) => (2147483647 - (y149).toInt).toNat) (fun (u : Int32 × Int32) (H : Heap) (locs : List Loc) (ls : Array Slot) => match u with | (y149, y150) => (F_z_Camp_bareMen mc.toInt (gT f1) = F_z_Camp_bareMen_l1 mc.toInt (gT f1) (y149.toInt, y150.toInt)) ∧ Rg y149 0 2147483647 ∧ va_P D vwCl [(h, oX0 m1 m2 m3 mc sc tx nr ra ru dy wa se lw), (m1, kcI cI 50 f1), (m2, kcI cI 72 f2), (m3, kcJ cJ 30 f3)] H ∧ va_D A [(h, oX0 m1 m2 m3 mc sc tx nr ra ru dy wa se lw), (m1, kcI cI 50 f1), (m2, kcI cI 72 f2), (m3, kcJ cJ 30 f3)] ∧ va_S A s.heap H locs ∧ lv_has ls 3 [(2, .int y149), (1, .int y150), (0, .ref h)]) ((0 : Int32), (0 : Int32)) ⟨rfl, (rg_w (rg_lit (n := 0) (by decide)) (by decide)), hP.sub (ws' := [(h, oX0 m1 m2 m3 mc sc tx nr ra ru dy wa se lw), (m1, kcI cI 50 f1), (m2, kcI cI 72 f2), (m3, kcJ cJ 30 f3)]) [0, 1, 2, 3] rfl, hD.sub (ws' := [(h, oX0 m1 m2 m3 mc sc tx nr ra ru dy wa se lw), (m1, kcI cI 50 f1), (m2, kcI cI 72 f2), (m3, kcJ cJ 30 f3)]) [0, 1, 2, 3] (by decide) rfl, hS, lv_sub (l' := [(2, .int 0), (1, .int 0), (0, .ref h)]) hl [0, 1, 2] rfl⟩ (fun u H locs ls hI ih151 => ?_)
  clear hP hD hS hl
  obtain ⟨y149, y150⟩ := u
  obtain ⟨hF1, hy149, hP, hD, hS, hl⟩ := hI
  have hP : va_P D vwCl [(h, oX0 m1 m2 m3 mc sc tx nr ra ru dy wa se lw), (m1, kcI cI 50 f1), (m2, kcI cI 72 f2), (m3, kcJ cJ 30 f3)] H := hP
  have hD : va_D A [(h, oX0 m1 m2 m3 mc sc tx nr ra ru dy wa se lw), (m1, kcI cI 50 f1), (m2, kcI cI 72 f2), (m3, kcJ cJ 30 f3)] := hD
  have hl : lv_has ls 3 [(2, .int y149), (1, .int y150), (0, .ref h)] := hl
  refine lv_iload_n hx hb dX0_bareMen_4 rfl (lv_at hl 0 rfl) ?_
  refine lv_aload_n hx hb dX0_bareMen_5 rfl (lv_at hl 2 rfl) ?_
  refine va_get (D := D) (ci := 0) (v := .int mc) (C := RX0) (T := TX0) (N := 13) hx hb hts iG_X0 hown hK hP 0 rfl rfl 3 (by decide) (hts _ w2_5) (fun _ h9 => h9) rfl dX0_bareMen_6 ?_
  refine lv_icmp_ge (tgt := 29) hx hb dX0_bareMen_9 (by decide) (fun c152 => ?_) (fun c152 => ?_)
  · skip
    refine lv_iload_n hx hb dX0_bareMen_29 rfl (lv_at hl 1 rfl) ?_
    have hP9 := hP.sub (ws' := [(h, oX0 m1 m2 m3 mc sc tx nr ra ru dy wa se lw), (m1, kcI cI 50 f1), (m2, kcI cI 72 f2), (m3, kcJ cJ 30 f3)]) [0, 1, 2, 3] rfl
    have hD9 := hD.sub (ws' := [(h, oX0 m1 m2 m3 mc sc tx nr ra ru dy wa se lw), (m1, kcI cI 50 f1), (m2, kcI cI 72 f2), (m3, kcJ cJ 30 f3)]) [0, 1, 2, 3] (by decide) rfl
    exact W.iret (v := y150) hx hb hr (fun t ht hW => ⟨⟨y150, (), rfl, (hF1.trans (kIter_out (kC_eq rfl (kif_t (leI c152) rfl)))), by rw [ht]; exact hP9, va_K.moved hW.alike hK, hD9⟩, hS.F ht⟩) hS.2.2 dX0_bareMen_30
  · skip
    have k153 : Rg y149 0 2147483646 := rg_l1 (nleI c152) hy149 (rg_any mc) (by decide)
    have k154 : Rg mc 1 2147483647 := rg_l2 (nleI c152) hy149 (rg_any mc) (by decide)
    refine lv_aload_n hx hb dX0_bareMen_12 rfl (lv_at hl 2 rfl) ?_
    refine lv_iload_n hx hb dX0_bareMen_13 rfl (lv_at hl 0 rfl) ?_
    refine kpurei (wc := [(h, oX0 m1 m2 m3 mc sc tx nr ra ru dy wa se lw), (m1, kcI cI 50 f1), (m2, kcI cI 72 f2), (m3, kcJ cJ 30 f3)]) hP hD hS hA [0, 1, 2, 3] rfl (by decide) (fun hPc hDc hFc => va_runV (As := [.int y149]) (rest := []) ⟨hx, hb, hml, hown, hts⟩ (z_Camp_isBare l D cI cJ cB cC h m1 m2 m3 mc sc tx nr ra ru dy wa se lw f1 f2 f3 y149 H.size) (cwV 1 hts gX0_bareMen_X0_isBare rfl rfl rfl ⟨rfl, hdX0_isBare⟩ ⟨Nat.le_of_ble_eq_true rfl, Nat.le_of_ble_eq_true rfl⟩) ⟨kBlind, va_recv hK hPc (ci := 0) (q0 := 0) rfl rfl, fun U hU hW => ⟨rfl, by rw [hU], hN.warm hW, hE.pass hS hFc hW hU, by rw [hU]; exact hPc, va_K.moved hW.alike hK, hDc⟩⟩ rfl rfl hl.1 rfl (lv_room (Nat.le_of_ble_eq_true rfl)) dX0_bareMen_14 ⟨Nat.le_of_ble_eq_true rfl, Nat.le_of_ble_eq_true rfl⟩) (fun r155 u H locs hw hP hS => ?_)
    obtain ⟨k156, hw⟩ := hw
    rcases hw with rfl | rfl
    · skip
      refine lv_if_eq (tgt := 23) hx hb dX0_bareMen_17 (by decide) (fun _ => ?_) (fun c159 => absurd (by decide) c159)
      obtain ⟨x160, ex160⟩ : ∃ y : Int32, y = y149 + 1 := ⟨_, rfl⟩
      refine lv_iinc (v := x160) (lv' := [(2, .int x160), (1, .int y150), (0, .ref h)]) hx hb dX0_bareMen_23 hl (k := 0) rfl (by rw [ex160]; rfl) (by decide) rfl (fun ls hl => ?_)
      have k161 : Rg x160 1 2147483647 := rg_add ex160 k153 (rg_lit (n := 1) (by decide)) (by decide)
      refine lv_goto (tgt := 4) hx hb dX0_bareMen_26 (by decide) ?_
      exact ih151 (x160, y150) _ _ _ (by show (2147483647 - (x160).toInt).toNat < (2147483647 - (y149).toInt).toNat; exact mu_up ex160 k153 k161 (by decide)) ⟨(hF1.trans (kIter_go (kC_eq rfl (kif_f (xF_le c152) (kLet_eq (k156).symm (kif_t rfl (kLet_eq (ti_add ex160 k153 (rg_lit (n := 1) (by decide)) (by decide) rfl rfl) rfl))))))), (rg_w k161 (by decide)), hP.sub (ws' := [(h, oX0 m1 m2 m3 mc sc tx nr ra ru dy wa se lw), (m1, kcI cI 50 f1), (m2, kcI cI 72 f2), (m3, kcJ cJ 30 f3)]) [0, 1, 2, 3] rfl, hD.sub (ws' := [(h, oX0 m1 m2 m3 mc sc tx nr ra ru dy wa se lw), (m1, kcI cI 50 f1), (m2, kcI cI 72 f2), (m3, kcJ cJ 30 f3)]) [0, 1, 2, 3] (by decide) rfl, hS, lv_sub (l' := [(2, .int x160), (1, .int y150), (0, .ref h)]) hl [0, 1, 2] rfl⟩
    · skip
      refine lv_if_eq (tgt := 23) hx hb dX0_bareMen_17 (by decide) (fun c164 => absurd c164 (by decide)) (fun _ => ?_)
      obtain ⟨x165, ex165⟩ : ∃ y : Int32, y = y150 + 1 := ⟨_, rfl⟩
      refine lv_iinc (v := x165) (lv' := [(1, .int x165), (2, .int y149), (0, .ref h)]) hx hb dX0_bareMen_20 hl (k := 1) rfl (by rw [ex165]; rfl) (by decide) rfl (fun ls hl => ?_)
      obtain ⟨x166, ex166⟩ : ∃ y : Int32, y = y149 + 1 := ⟨_, rfl⟩
      refine lv_iinc (v := x166) (lv' := [(2, .int x166), (1, .int x165), (0, .ref h)]) hx hb dX0_bareMen_23 hl (k := 1) rfl (by rw [ex166]; rfl) (by decide) rfl (fun ls hl => ?_)
      have k167 : Rg x166 1 2147483647 := rg_add ex166 k153 (rg_lit (n := 1) (by decide)) (by decide)
      refine lv_goto (tgt := 4) hx hb dX0_bareMen_26 (by decide) ?_
      exact ih151 (x166, x165) _ _ _ (by show (2147483647 - (x166).toInt).toNat < (2147483647 - (y149).toInt).toNat; exact mu_up ex166 k153 k167 (by decide)) ⟨(hF1.trans (kIter_go (kC_eq rfl (kif_f (xF_le c152) (kLet_eq (k156).symm (kif_f (by decide) (kLet_eq (ke_wadd ex165) (kLet_eq (ti_add ex166 k153 (rg_lit (n := 1) (by decide)) (by decide) rfl rfl) rfl)))))))), (rg_w k167 (by decide)), hP.sub (ws' := [(h, oX0 m1 m2 m3 mc sc tx nr ra ru dy wa se lw), (m1, kcI cI 50 f1), (m2, kcI cI 72 f2), (m3, kcJ cJ 30 f3)]) [0, 1, 2, 3] rfl, hD.sub (ws' := [(h, oX0 m1 m2 m3 mc sc tx nr ra ru dy wa se lw), (m1, kcI cI 50 f1), (m2, kcI cI 72 f2), (m3, kcJ cJ 30 f3)]) [0, 1, 2, 3] (by decide) rfl, hS, lv_sub (l' := [(2, .int x166), (1, .int x165), (0, .ref h)]) hl [0, 1, 2] rfl⟩

def kwX0_sumOfShirts : List Cond := .code yX0_sumOfShirts cX0_sumOfShirts 4 (some .int) :: kG
theorem hdX0_sumOfShirts : yX0_sumOfShirts.cls ≠ "java/lang/invoke/MethodHandle" ∧ yX0_sumOfShirts.cls ≠ "java/lang/invoke/VarHandle" ∧ (parseMethodDescriptor yX0_sumOfShirts.desc).map (fun d => d.parameters.length) = some 1 := by decide +kernel
theorem gX0_sumOfShirts_X0_ofShirt : GoodIn kG (wsV RX0 75 RX0 yX0_ofShirt kwX0_ofShirt) := gK w15_10 (gK w15_11 (gK w15_12 (gK w0_19 (gK w15_13 gGG))))
theorem dX0_sumOfShirts_0 : decode cX0_sumOfShirts 0 = .ok (.iconst 0, 1) := by decide +kernel
theorem dX0_sumOfShirts_1 : decode cX0_sumOfShirts 1 = .ok (.istore_n 2, 1) := by decide +kernel
theorem dX0_sumOfShirts_2 : decode cX0_sumOfShirts 2 = .ok (.iconst 0, 1) := by decide +kernel
theorem dX0_sumOfShirts_3 : decode cX0_sumOfShirts 3 = .ok (.istore_n 3, 1) := by decide +kernel
theorem dX0_sumOfShirts_4 : decode cX0_sumOfShirts 4 = .ok (.iload_n 3, 1) := by decide +kernel
theorem dX0_sumOfShirts_5 : decode cX0_sumOfShirts 5 = .ok (.aload_n 0, 1) := by decide +kernel
theorem dX0_sumOfShirts_6 : decode cX0_sumOfShirts 6 = .ok (.getfield 26, 3) := by decide +kernel
theorem dX0_sumOfShirts_9 : decode cX0_sumOfShirts 9 = .ok (.if_icmp .ge 18, 3) := by decide +kernel
theorem dX0_sumOfShirts_12 : decode cX0_sumOfShirts 12 = .ok (.iload_n 2, 1) := by decide +kernel
theorem dX0_sumOfShirts_13 : decode cX0_sumOfShirts 13 = .ok (.aload_n 0, 1) := by decide +kernel
theorem dX0_sumOfShirts_14 : decode cX0_sumOfShirts 14 = .ok (.iload_n 3, 1) := by decide +kernel
theorem dX0_sumOfShirts_15 : decode cX0_sumOfShirts 15 = .ok (.iload_n 1, 1) := by decide +kernel
theorem dX0_sumOfShirts_16 : decode cX0_sumOfShirts 16 = .ok (.invokevirtual 75, 3) := by decide +kernel
theorem dX0_sumOfShirts_19 : decode cX0_sumOfShirts 19 = .ok (.iadd, 1) := by decide +kernel
theorem dX0_sumOfShirts_20 : decode cX0_sumOfShirts 20 = .ok (.istore_n 2, 1) := by decide +kernel
theorem dX0_sumOfShirts_21 : decode cX0_sumOfShirts 21 = .ok (.iinc 3 1, 3) := by decide +kernel
theorem dX0_sumOfShirts_24 : decode cX0_sumOfShirts 24 = .ok (.goto (-20), 3) := by decide +kernel
theorem dX0_sumOfShirts_27 : decode cX0_sumOfShirts 27 = .ok (.iload_n 2, 1) := by decide +kernel
theorem dX0_sumOfShirts_28 : decode cX0_sumOfShirts 28 = .ok (.ireturn, 1) := by decide +kernel
set_option maxHeartbeats 4000000 in
set_option maxRecDepth 100000 in
/-- Camp.sumOfShirts -/
theorem z_Camp_sumOfShirts (l : Launch) (D : va_G) (cI cJ cB cC : ClassId) (h : Nat) (m1 : Nat) (m2 : Nat) (m3 : Nat) (mc : Int32) (sc : Int32) (tx : Int32) (nr : Int32) (ra : Int32) (ru : Int32) (dy : Int32) (wa : Int32) (se : Int32) (lw : Option Nat) (f1 : Nat → Int32) (f2 : Nat → Int32) (f3 : Nat → Int64) (a : Int32) (sz : Nat)  : Met l yX0_sumOfShirts kwX0_sumOfShirts ({ frames := 1, cells := 0, slots := 0, locals := 23 } : Room) (kPre D (kT cI cJ cB cC) sz [(h, oX0 m1 m2 m3 mc sc tx nr ra ru dy wa se lw), (m1, kcI cI 50 f1), (m2, kcI cI 72 f2), (m3, kcJ cJ 30 f3)] [.ref h, .int a]) (va_Qi (fun (r : Int32) (_ : Unit) => F_z_Camp_sumOfShirts (sc : Int32).toInt (gT f2) (a : Int32).toInt = ((r : Int32).toInt)) (fun (_ : Unit) (t : State) => kB D (kT cI cJ cB cC) (va_A [(h, oX0 m1 m2 m3 mc sc tx nr ra ru dy wa se lw), (m1, kcI cI 50 f1), (m2, kcI cI 72 f2), (m3, kcJ cJ 30 f3)] sz) [(h, oX0 m1 m2 m3 mc sc tx nr ra ru dy wa se lw), (m1, kcI cI 50 f1), (m2, kcI cI 72 f2), (m3, kcJ cJ 30 f3)] t) (va_A [(h, oX0 m1 m2 m3 mc sc tx nr ra ru dy wa se lw), (m1, kcI cI 50 f1), (m2, kcI cI 72 f2), (m3, kcJ cJ 30 f3)] sz)) 0 0 (va_A [(h, oX0 m1 m2 m3 mc sc tx nr ra ru dy wa se lw), (m1, kcI cI 50 f1), (m2, kcI cI 72 f2), (m3, kcJ cJ 30 f3)] sz) := by
  refine Met.ofW (cc := cX0_sumOfShirts) (maxL := 4) (ret := (some .int)) (by decide) rfl ?_
  intro p e s m args below meth c s₁ B hml hv
  obtain ⟨rfl, hsz, hN, hE, hP, hK, hD0⟩ := hv
  have hx := B.exec
  have hb := B.bytes
  have hr := B.returns
  have hts := fun (w : Cond) (h : w ∈ kG) => atoms_spec (ws := kwX0_sumOfShirts) B.pre w (List.mem_cons_of_mem _ h)
  have hown : s.vm.findClass RX0 = some m.cls := findClass_of_methodNamed B.named
  subst hsz
  have hD := hD0.self (sz := s.heap.size)
  generalize hAe : va_A [(h, oX0 m1 m2 m3 mc sc tx nr ra ru dy wa se lw), (m1, kcI cI 50 f1), (m2, kcI cI 72 f2), (m3, kcJ cJ 30 f3)] s.heap.size = A at hD hE ⊢
  have hA : ∀ q : Nat, s.heap.size ≤ q → A q := fun q h => by rw [← hAe]; exact Or.inr h
  have hl := lv_entry ([.ref h, .int a]) (n := 4) (Nat.le_of_ble_eq_true rfl)
  rw [lg_entry_eq]
  generalize (lg_sl ([.ref h, .int a]) ++ List.replicate (4 - (lg_sl ([.ref h, .int a])).length) Slot.unset).toArray = ls at hl ⊢
  have hl : lv_has ls 4 [(0, .ref h), (1, .int a)] := hl
  obtain ⟨H, hH0⟩ : ∃ H, H = s.heap := ⟨_, rfl⟩
  have hS : va_S A s.heap H [] := by rw [hH0]; exact va_S.rf
  have hP : va_P D vwCl [(h, oX0 m1 m2 m3 mc sc tx nr ra ru dy wa se lw), (m1, kcI cI 50 f1), (m2, kcI cI 72 f2), (m3, kcJ cJ 30 f3)] H := by rw [hH0]; exact hP
  refine kHeap hH0 ?_
  clear hH0
  refine lv_iconst (v := 0) hx hb dX0_sumOfShirts_0 (by decide) ?_
  refine lv_istore_n (lv' := [(2, .int 0), (0, .ref h), (1, .int a)]) hx hb dX0_sumOfShirts_1 rfl hl (by decide) rfl (fun ls hl => ?_)
  refine lv_iconst (v := 0) hx hb dX0_sumOfShirts_2 (by decide) ?_
  refine lv_istore_n (lv' := [(3, .int 0), (2, .int 0), (0, .ref h), (1, .int a)]) hx hb dX0_sumOfShirts_3 rfl hl (by decide) rfl (fun ls hl => ?_)
  refine k_loop (hd := 4) (fun (u : Int32 × Int32) => match u with | (y87, y88) => (2147483647 - (y87).toInt).toNat) (fun (u : Int32 × Int32) (H : Heap) (locs : List Loc) (ls : Array Slot) => match u with | (y87, y88) => (F_z_Camp_sumOfShirts sc.toInt (gT f2) a.toInt = F_z_Camp_sumOfShirts_l1 sc.toInt (gT f2) a.toInt (y87.toInt, y88.toInt)) ∧ Rg y87 0 2147483647 ∧ va_P D vwCl [(h, oX0 m1 m2 m3 mc sc tx nr ra ru dy wa se lw), (m1, kcI cI 50 f1), (m2, kcI cI 72 f2), (m3, kcJ cJ 30 f3)] H ∧ va_D A [(h, oX0 m1 m2 m3 mc sc tx nr ra ru dy wa se lw), (m1, kcI cI 50 f1), (m2, kcI cI 72 f2), (m3, kcJ cJ 30 f3)] ∧ va_S A s.heap H locs ∧ lv_has ls 4 [(3, .int y87), (2, .int y88), (0, .ref h), (1, .int a)]) ((0 : Int32), (0 : Int32)) ⟨rfl, (rg_w (rg_lit (n := 0) (by decide)) (by decide)), hP.sub (ws' := [(h, oX0 m1 m2 m3 mc sc tx nr ra ru dy wa se lw), (m1, kcI cI 50 f1), (m2, kcI cI 72 f2), (m3, kcJ cJ 30 f3)]) [0, 1, 2, 3] rfl, hD.sub (ws' := [(h, oX0 m1 m2 m3 mc sc tx nr ra ru dy wa se lw), (m1, kcI cI 50 f1), (m2, kcI cI 72 f2), (m3, kcJ cJ 30 f3)]) [0, 1, 2, 3] (by decide) rfl, hS, lv_sub (l' := [(3, .int 0), (2, .int 0), (0, .ref h), (1, .int a)]) hl [0, 1, 2, 3] rfl⟩ (fun u H locs ls hI ih89 => ?_)
  clear hP hD hS hl
  obtain ⟨y87, y88⟩ := u
  obtain ⟨hF1, hy87, hP, hD, hS, hl⟩ := hI
  have hP : va_P D vwCl [(h, oX0 m1 m2 m3 mc sc tx nr ra ru dy wa se lw), (m1, kcI cI 50 f1), (m2, kcI cI 72 f2), (m3, kcJ cJ 30 f3)] H := hP
  have hD : va_D A [(h, oX0 m1 m2 m3 mc sc tx nr ra ru dy wa se lw), (m1, kcI cI 50 f1), (m2, kcI cI 72 f2), (m3, kcJ cJ 30 f3)] := hD
  have hl : lv_has ls 4 [(3, .int y87), (2, .int y88), (0, .ref h), (1, .int a)] := hl
  refine lv_iload_n hx hb dX0_sumOfShirts_4 rfl (lv_at hl 0 rfl) ?_
  refine lv_aload_n hx hb dX0_sumOfShirts_5 rfl (lv_at hl 2 rfl) ?_
  refine va_get (D := D) (ci := 0) (v := .int sc) (C := RX0) (T := TX0) (N := 13) hx hb hts iG_X0 hown hK hP 0 rfl rfl 4 (by decide) (hts _ w2_6) (fun _ h9 => h9) rfl dX0_sumOfShirts_6 ?_
  refine lv_icmp_ge (tgt := 27) hx hb dX0_sumOfShirts_9 (by decide) (fun c90 => ?_) (fun c90 => ?_)
  · skip
    refine lv_iload_n hx hb dX0_sumOfShirts_27 rfl (lv_at hl 1 rfl) ?_
    have hP9 := hP.sub (ws' := [(h, oX0 m1 m2 m3 mc sc tx nr ra ru dy wa se lw), (m1, kcI cI 50 f1), (m2, kcI cI 72 f2), (m3, kcJ cJ 30 f3)]) [0, 1, 2, 3] rfl
    have hD9 := hD.sub (ws' := [(h, oX0 m1 m2 m3 mc sc tx nr ra ru dy wa se lw), (m1, kcI cI 50 f1), (m2, kcI cI 72 f2), (m3, kcJ cJ 30 f3)]) [0, 1, 2, 3] (by decide) rfl
    exact W.iret (v := y88) hx hb hr (fun t ht hW => ⟨⟨y88, (), rfl, (hF1.trans (kIter_out (kC_eq rfl (kif_t (leI c90) rfl)))), by rw [ht]; exact hP9, va_K.moved hW.alike hK, hD9⟩, hS.F ht⟩) hS.2.2 dX0_sumOfShirts_28
  · skip
    have k91 : Rg y87 0 2147483646 := rg_l1 (nleI c90) hy87 (rg_any sc) (by decide)
    have k92 : Rg sc 1 2147483647 := rg_l2 (nleI c90) hy87 (rg_any sc) (by decide)
    refine lv_iload_n hx hb dX0_sumOfShirts_12 rfl (lv_at hl 1 rfl) ?_
    refine lv_aload_n hx hb dX0_sumOfShirts_13 rfl (lv_at hl 2 rfl) ?_
    refine lv_iload_n hx hb dX0_sumOfShirts_14 rfl (lv_at hl 0 rfl) ?_
    refine lv_iload_n hx hb dX0_sumOfShirts_15 rfl (lv_at hl 3 rfl) ?_
    refine kpurei (wc := [(h, oX0 m1 m2 m3 mc sc tx nr ra ru dy wa se lw), (m1, kcI cI 50 f1), (m2, kcI cI 72 f2), (m3, kcJ cJ 30 f3)]) hP hD hS hA [0, 1, 2, 3] rfl (by decide) (fun hPc hDc hFc => va_runV (As := [.int y87, .int a]) (rest := [.int y88]) ⟨hx, hb, hml, hown, hts⟩ (z_Camp_ofShirt l D cI cJ cB cC h m1 m2 m3 mc sc tx nr ra ru dy wa se lw f1 f2 f3 y87 a H.size) (cwV 2 hts gX0_sumOfShirts_X0_ofShirt rfl rfl rfl ⟨rfl, hdX0_ofShirt⟩ ⟨Nat.le_of_ble_eq_true rfl, Nat.le_of_ble_eq_true rfl⟩) ⟨kBlind, va_recv hK hPc (ci := 0) (q0 := 0) rfl rfl, fun U hU hW => ⟨rfl, by rw [hU], hN.warm hW, hE.pass hS hFc hW hU, by rw [hU]; exact hPc, va_K.moved hW.alike hK, hDc⟩⟩ rfl rfl hl.1 rfl (lv_room (Nat.le_of_ble_eq_true rfl)) dX0_sumOfShirts_16 ⟨Nat.le_of_ble_eq_true rfl, Nat.le_of_ble_eq_true rfl⟩) (fun r93 u H locs hw hP hS => ?_)
    have k94 := hw
    refine lv_iadd hx hb dX0_sumOfShirts_19 ?_
    refine lv_topi (fun x95 ex95 => ?_)
    refine lv_istore_n (lv' := [(2, .int x95), (3, .int y87), (0, .ref h), (1, .int a)]) hx hb dX0_sumOfShirts_20 rfl hl (by decide) rfl (fun ls hl => ?_)
    obtain ⟨x96, ex96⟩ : ∃ y : Int32, y = y87 + 1 := ⟨_, rfl⟩
    refine lv_iinc (v := x96) (lv' := [(3, .int x96), (2, .int x95), (0, .ref h), (1, .int a)]) hx hb dX0_sumOfShirts_21 hl (k := 1) rfl (by rw [ex96]; rfl) (by decide) rfl (fun ls hl => ?_)
    have k97 : Rg x96 1 2147483647 := rg_add ex96 k91 (rg_lit (n := 1) (by decide)) (by decide)
    refine lv_goto (tgt := 4) hx hb dX0_sumOfShirts_24 (by decide) ?_
    exact ih89 (x96, x95) _ _ _ (by show (2147483647 - (x96).toInt).toNat < (2147483647 - (y87).toInt).toNat; exact mu_up ex96 k91 k97 (by decide)) ⟨(hF1.trans (kIter_go (kC_eq rfl (kif_f (xF_le c90) (kLet_eq (k94).symm (kLet_eq (ke_wadd ex95) (kLet_eq (ti_add ex96 k91 (rg_lit (n := 1) (by decide)) (by decide) rfl rfl) rfl))))))), (rg_w k97 (by decide)), hP.sub (ws' := [(h, oX0 m1 m2 m3 mc sc tx nr ra ru dy wa se lw), (m1, kcI cI 50 f1), (m2, kcI cI 72 f2), (m3, kcJ cJ 30 f3)]) [0, 1, 2, 3] rfl, hD.sub (ws' := [(h, oX0 m1 m2 m3 mc sc tx nr ra ru dy wa se lw), (m1, kcI cI 50 f1), (m2, kcI cI 72 f2), (m3, kcJ cJ 30 f3)]) [0, 1, 2, 3] (by decide) rfl, hS, lv_sub (l' := [(3, .int x96), (2, .int x95), (0, .ref h), (1, .int a)]) hl [0, 1, 2, 3] rfl⟩

