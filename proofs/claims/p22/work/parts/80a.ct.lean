set_option maxHeartbeats 4000000 in
set_option maxRecDepth 100000 in
/-- Integer.bitCount -/
theorem z_bitCountx (l : Launch) (D : va_G) (cI cJ cB cC : ClassId) (x : Int32) (sz : Nat)  : Met l yJ6_bitCount_0f7a4 kwJ6_bitCount_0f7a4 ({ frames := 0, cells := 0, slots := 0, locals := 0 } : Room) (kPre D (kT cI cJ cB cC) sz [] [.int x]) (va_Qi (fun (r : Int32) (_ : Unit) => r = kBC x ∧ Rg r 0 63 ∧ F_z_bitCountx (x : Int32).toInt = ((r : Int32).toInt)) (fun (_ : Unit) (t : State) => kB D (kT cI cJ cB cC) (va_A [] sz) [] t) (va_A [] sz)) 0 0 (va_A [] sz) := by
  refine Met.ofW (cc := cJ6_bitCount_0f7a4) (maxL := 1) (ret := (some .int)) (by decide) rfl ?_
  intro p e s m args below meth c s₁ B hml hv
  obtain ⟨rfl, hsz, hN, hE, hP, hK, hD0⟩ := hv
  have hx := B.exec
  have hb := B.bytes
  have hr := B.returns
  have hts := fun (w : Cond) (h : w ∈ kG) => atoms_spec (ws := kwJ6_bitCount_0f7a4) B.pre w (List.mem_cons_of_mem _ h)
  have hown : s.vm.findClass RJ6 = some m.cls := findClass_of_methodNamed B.named
  subst hsz
  have hD := hD0.self (sz := s.heap.size)
  generalize hAe : va_A [] s.heap.size = A at hD hE ⊢
  have hA : ∀ q : Nat, s.heap.size ≤ q → A q := fun q h => by rw [← hAe]; exact Or.inr h
  have hl := lv_entry ([.int x]) (n := 1) (Nat.le_of_ble_eq_true rfl)
  rw [lg_entry_eq]
  generalize (lg_sl ([.int x]) ++ List.replicate (1 - (lg_sl ([.int x])).length) Slot.unset).toArray = ls at hl ⊢
  have hl : lv_has ls 1 [(0, .int x)] := hl
  obtain ⟨H, hH0⟩ : ∃ H, H = s.heap := ⟨_, rfl⟩
  have hS : va_S A s.heap H [] := by rw [hH0]; exact va_S.rf
  have hP : va_P D vwCl [] H := by rw [hH0]; exact hP
  refine kHeap hH0 ?_
  clear hH0
  refine lv_iload_n hx hb dJ6_bitCount_0f7a4_0 rfl (lv_at hl 0 rfl) ?_
  refine lv_iload_n hx hb dJ6_bitCount_0f7a4_1 rfl (lv_at hl 0 rfl) ?_
  refine lv_iconst (v := 1) hx hb dJ6_bitCount_0f7a4_2 (by decide) ?_
  refine lv_iushr hx hb dJ6_bitCount_0f7a4_3 rfl ?_
  refine lv_topi (fun x1 ex1 => ?_)
  refine lv_ldcw (v := 1431655765) hx hb hown (hts _ w39_15) dJ6_bitCount_0f7a4_4 ?_
  refine lv_iand hx hb dJ6_bitCount_0f7a4_7 ?_
  refine lv_topi (fun x2 ex2 => ?_)
  have k3 : Rg x2 0 1431655765 := rg_andr ex2 (rg_lit (n := 1431655765) (by decide)) (by decide)
  refine lv_isub hx hb dJ6_bitCount_0f7a4_8 ?_
  refine lv_topi (fun x4 ex4 => ?_)
  refine lv_istore_n (lv' := [(0, .int x4)]) hx hb dJ6_bitCount_0f7a4_9 rfl hl (by decide) rfl (fun ls hl => ?_)
  refine lv_iload_n hx hb dJ6_bitCount_0f7a4_10 rfl (lv_at hl 0 rfl) ?_
  refine lv_ldcw (v := 858993459) hx hb hown (hts _ w39_16) dJ6_bitCount_0f7a4_11 ?_
  refine lv_iand hx hb dJ6_bitCount_0f7a4_14 ?_
  refine lv_topi (fun x5 ex5 => ?_)
  have k6 : Rg x5 0 858993459 := rg_andr ex5 (rg_lit (n := 858993459) (by decide)) (by decide)
  refine lv_iload_n hx hb dJ6_bitCount_0f7a4_15 rfl (lv_at hl 0 rfl) ?_
  refine lv_iconst (v := 2) hx hb dJ6_bitCount_0f7a4_16 (by decide) ?_
  refine lv_iushr hx hb dJ6_bitCount_0f7a4_17 rfl ?_
  refine lv_topi (fun x7 ex7 => ?_)
  refine lv_ldcw (v := 858993459) hx hb hown (hts _ w39_16) dJ6_bitCount_0f7a4_18 ?_
  refine lv_iand hx hb dJ6_bitCount_0f7a4_21 ?_
  refine lv_topi (fun x8 ex8 => ?_)
  have k9 : Rg x8 0 858993459 := rg_andr ex8 (rg_lit (n := 858993459) (by decide)) (by decide)
  refine lv_iadd hx hb dJ6_bitCount_0f7a4_22 ?_
  refine lv_topi (fun x10 ex10 => ?_)
  have tx10 : x10.toInt = x5.toInt + x8.toInt := ti_add ex10 k6 k9 (by decide) rfl rfl
  have k11 : Rg x10 0 1717986918 := rg_add ex10 k6 k9 (by decide)
  refine lv_istore_n (lv' := [(0, .int x10)]) hx hb dJ6_bitCount_0f7a4_23 rfl hl (by decide) rfl (fun ls hl => ?_)
  refine lv_iload_n hx hb dJ6_bitCount_0f7a4_24 rfl (lv_at hl 0 rfl) ?_
  refine lv_iload_n hx hb dJ6_bitCount_0f7a4_25 rfl (lv_at hl 0 rfl) ?_
  refine lv_iconst (v := 4) hx hb dJ6_bitCount_0f7a4_26 (by decide) ?_
  refine lv_iushr hx hb dJ6_bitCount_0f7a4_27 rfl ?_
  refine lv_topi (fun x12 ex12 => ?_)
  refine lv_iadd hx hb dJ6_bitCount_0f7a4_28 ?_
  refine lv_topi (fun x13 ex13 => ?_)
  refine lv_ldcw (v := 252645135) hx hb hown (hts _ w39_17) dJ6_bitCount_0f7a4_29 ?_
  refine lv_iand hx hb dJ6_bitCount_0f7a4_32 ?_
  refine lv_topi (fun x14 ex14 => ?_)
  have k15 : Rg x14 0 252645135 := rg_andr ex14 (rg_lit (n := 252645135) (by decide)) (by decide)
  refine lv_istore_n (lv' := [(0, .int x14)]) hx hb dJ6_bitCount_0f7a4_33 rfl hl (by decide) rfl (fun ls hl => ?_)
  refine lv_iload_n hx hb dJ6_bitCount_0f7a4_34 rfl (lv_at hl 0 rfl) ?_
  refine lv_iload_n hx hb dJ6_bitCount_0f7a4_35 rfl (lv_at hl 0 rfl) ?_
  refine lv_bipush (v := 8) hx hb dJ6_bitCount_0f7a4_36 (by decide) ?_
  refine lv_iushr hx hb dJ6_bitCount_0f7a4_38 rfl ?_
  refine lv_topi (fun x16 ex16 => ?_)
  refine lv_iadd hx hb dJ6_bitCount_0f7a4_39 ?_
  refine lv_topi (fun x17 ex17 => ?_)
  refine lv_istore_n (lv' := [(0, .int x17)]) hx hb dJ6_bitCount_0f7a4_40 rfl hl (by decide) rfl (fun ls hl => ?_)
  refine lv_iload_n hx hb dJ6_bitCount_0f7a4_41 rfl (lv_at hl 0 rfl) ?_
  refine lv_iload_n hx hb dJ6_bitCount_0f7a4_42 rfl (lv_at hl 0 rfl) ?_
  refine lv_bipush (v := 16) hx hb dJ6_bitCount_0f7a4_43 (by decide) ?_
  refine lv_iushr hx hb dJ6_bitCount_0f7a4_45 rfl ?_
  refine lv_topi (fun x18 ex18 => ?_)
  refine lv_iadd hx hb dJ6_bitCount_0f7a4_46 ?_
  refine lv_topi (fun x19 ex19 => ?_)
  refine lv_istore_n (lv' := [(0, .int x19)]) hx hb dJ6_bitCount_0f7a4_47 rfl hl (by decide) rfl (fun ls hl => ?_)
  refine lv_iload_n hx hb dJ6_bitCount_0f7a4_48 rfl (lv_at hl 0 rfl) ?_
  refine lv_bipush (v := 63) hx hb dJ6_bitCount_0f7a4_49 (by decide) ?_
  refine lv_iand hx hb dJ6_bitCount_0f7a4_51 ?_
  refine lv_topi (fun x20 ex20 => ?_)
  have k21 : Rg x20 0 63 := rg_andr ex20 (rg_lit (n := 63) (by decide)) (by decide)
  have hP9 := hP.sub (ws' := []) [] rfl
  have hD9 := hD.sub (ws' := []) [] (by decide) rfl
  exact W.iret (v := x20) hx hb hr (fun t ht hW => ⟨⟨x20, (), rfl, ⟨(by subst ex20 ex19 ex18 ex17 ex16 ex14 ex13 ex12 ex10 ex8 ex7 ex5 ex4 ex2 ex1; rfl), k21, (kLet_eq (ke_ushr ex1) (kLet_eq (ke_and ex2) (kLet_eq (ke_wsub ex4) (kLet_eq (ke_and ex5) (kLet_eq (ke_ushr ex7) (kLet_eq (ke_and ex8) (kLet_eq (ti_add ex10 k6 k9 (by decide) rfl rfl) (kLet_eq (ke_ushr ex12) (kLet_eq (ke_wadd ex13) (kLet_eq (ke_and ex14) (kLet_eq (ke_ushr ex16) (kLet_eq (ke_wadd ex17) (kLet_eq (ke_ushr ex18) (kLet_eq (ke_wadd ex19) (kLet_eq (ke_and ex20) rfl)))))))))))))))⟩, by rw [ht]; exact hP9, va_K.moved hW.alike hK, hD9⟩, hS.F ht⟩) hS.2.2 dJ6_bitCount_0f7a4_52

set_option maxHeartbeats 4000000 in
set_option maxRecDepth 100000 in
/-- reference: has -/
theorem r_hasx (l : Launch) (D : va_G) (cI cJ cB cC : ClassId) (st : Int32) (k : Int32) (sz : Nat)  : Met l yX11_has kwX11_has ({ frames := 0, cells := 0, slots := 0, locals := 0 } : Room) (kPre D (kT cI cJ cB cC) sz [] [.int st, .int k]) (va_Qi (fun (r : Int32) (_ : Unit) => r = hasF st k ∧ Rg r 0 1 ∧ F_r_hasx (st : Int32).toInt (k : Int32).toInt = ((r : Int32).toInt)) (fun (_ : Unit) (t : State) => kB D (kT cI cJ cB cC) (va_A [] sz) [] t) (va_A [] sz)) 0 0 (va_A [] sz) := by
  refine Met.ofW (cc := cX11_has) (maxL := 2) (ret := (some .boolean)) (by decide) rfl ?_
  intro p e s m args below meth c s₁ B hml hv
  obtain ⟨rfl, hsz, hN, hE, hP, hK, hD0⟩ := hv
  have hx := B.exec
  have hb := B.bytes
  have hr := B.returns
  have hts := fun (w : Cond) (h : w ∈ kG) => atoms_spec (ws := kwX11_has) B.pre w (List.mem_cons_of_mem _ h)
  have hown : s.vm.findClass RX11 = some m.cls := findClass_of_methodNamed B.named
  subst hsz
  have hD := hD0.self (sz := s.heap.size)
  generalize hAe : va_A [] s.heap.size = A at hD hE ⊢
  have hA : ∀ q : Nat, s.heap.size ≤ q → A q := fun q h => by rw [← hAe]; exact Or.inr h
  have hl := lv_entry ([.int st, .int k]) (n := 2) (Nat.le_of_ble_eq_true rfl)
  rw [lg_entry_eq]
  generalize (lg_sl ([.int st, .int k]) ++ List.replicate (2 - (lg_sl ([.int st, .int k])).length) Slot.unset).toArray = ls at hl ⊢
  have hl : lv_has ls 2 [(0, .int st), (1, .int k)] := hl
  obtain ⟨H, hH0⟩ : ∃ H, H = s.heap := ⟨_, rfl⟩
  have hS : va_S A s.heap H [] := by rw [hH0]; exact va_S.rf
  have hP : va_P D vwCl [] H := by rw [hH0]; exact hP
  refine kHeap hH0 ?_
  clear hH0
  refine lv_iload_n hx hb dX11_has_0 rfl (lv_at hl 0 rfl) ?_
  refine lv_iload_n hx hb dX11_has_1 rfl (lv_at hl 1 rfl) ?_
  refine lv_ishr hx hb dX11_has_2 ?_
  refine lv_topi (fun x1 ex1 => ?_)
  refine lv_iconst (v := 1) hx hb dX11_has_3 (by decide) ?_
  refine lv_iand hx hb dX11_has_4 ?_
  refine lv_topi (fun x2 ex2 => ?_)
  have k3 : Rg x2 0 1 := rg_andr ex2 (rg_lit (n := 1) (by decide)) (by decide)
  refine lv_iconst (v := 1) hx hb dX11_has_5 (by decide) ?_
  refine lv_icmp_ne (tgt := 13) hx hb dX11_has_6 (by decide) (fun c7 => ?_) (fun c7 => ?_)
  · skip
    have k8 : Rg x2 0 0 := rg_n1 (neI c7) k3 (rg_lit (n := 1) (by decide)) (by decide)
    refine lv_iconst (v := 0) hx hb dX11_has_13 (by decide) ?_
    have hP9 := hP.sub (ws' := []) [] rfl
    have hD9 := hD.sub (ws' := []) [] (by decide) rfl
    exact W.zret (v := 0) hx hb hr (by decide) (fun t ht hW => ⟨⟨0, (), rfl, ⟨(by unfold hasF; rw [← ex1, ← ex2, if_neg c7]), (rg_w (rg_lit (n := 0) (by decide)) (by decide)), (kLet_eq (ke_shr ex1) (kLet_eq (ke_and ex2) (kif_f (neI c7) rfl)))⟩, by rw [ht]; exact hP9, va_K.moved hW.alike hK, hD9⟩, hS.F ht⟩) hS.2.2 dX11_has_14
  · skip
    have k9 : Rg x2 1 1 := rg_q1 (eqI c7) k3 (rg_lit (n := 1) (by decide)) (by decide)
    refine lv_iconst (v := 1) hx hb dX11_has_9 (by decide) ?_
    refine lv_goto (tgt := 14) hx hb dX11_has_10 (by decide) ?_
    have hP9 := hP.sub (ws' := []) [] rfl
    have hD9 := hD.sub (ws' := []) [] (by decide) rfl
    exact W.zret (v := 1) hx hb hr (by decide) (fun t ht hW => ⟨⟨1, (), rfl, ⟨(by unfold hasF; rw [← ex1, ← ex2, if_pos (Int32.toInt_inj.mp (eqI c7))]), (rg_w (rg_lit (n := 1) (by decide)) (by decide)), (kLet_eq (ke_shr ex1) (kLet_eq (ke_and ex2) (kif_t (eqI c7) rfl)))⟩, by rw [ht]; exact hP9, va_K.moved hW.alike hK, hD9⟩, hS.F ht⟩) hS.2.2 dX11_has_14

set_option maxHeartbeats 4000000 in
set_option maxRecDepth 100000 in
/-- reference: isNeighbour -/
theorem r_isNeighbourx (l : Launch) (D : va_G) (cI cJ cB cC : ClassId) (h : Nat) (th : Int32) (aw : Nat) (ai : Nat) (ab : Nat) (ac : Nat) (hi : Int32) (re : Int32) (aP : Nat) (ta : Int32) (po : Int32) (en : Int32) (be : Int32) (de : Int32) (fa : Int32) (a5 : Nat) (sp : Int32) (av : Nat) (an : Nat) (ak : Nat) (ne : Int32) (aW : Nat) (aC : Nat) (ag : Nat) (aT : Nat) (aN : Nat) (aF : Nat) (fw : Nat → Int32) (mm : Int32) (b : Int32) (sz : Nat) (H_mm : Rg mm 0 9) (H_b : Rg b 0 9) (H_fw_W : wW fw) : Met l yX11_isNeighbour kwX11_isNeighbour ({ frames := 1, cells := 0, slots := 0, locals := 22 } : Room) (kPre D (kT cI cJ cB cC) sz [(h, oX11 th aw ai ab ac hi re aP ta po en be de fa a5 sp av an ak ne aW aC ag aT aN aF), (aw, kcI cI 2179 fw)] [.ref h, .int mm, .int b]) (va_Qi (fun (r : Int32) (_ : Unit) => r = nbF fw mm b ∧ Rg r 0 1 ∧ F_r_isNeighbourx (gT fw) (mm : Int32).toInt (b : Int32).toInt = ((r : Int32).toInt)) (fun (_ : Unit) (t : State) => kB D (kT cI cJ cB cC) (va_A [(h, oX11 th aw ai ab ac hi re aP ta po en be de fa a5 sp av an ak ne aW aC ag aT aN aF), (aw, kcI cI 2179 fw)] sz) [(h, oX11 th aw ai ab ac hi re aP ta po en be de fa a5 sp av an ak ne aW aC ag aT aN aF), (aw, kcI cI 2179 fw)] t) (va_A [(h, oX11 th aw ai ab ac hi re aP ta po en be de fa a5 sp av an ak ne aW aC ag aT aN aF), (aw, kcI cI 2179 fw)] sz)) 0 0 (va_A [(h, oX11 th aw ai ab ac hi re aP ta po en be de fa a5 sp av an ak ne aW aC ag aT aN aF), (aw, kcI cI 2179 fw)] sz) := by
  refine Met.ofW (cc := cX11_isNeighbour) (maxL := 3) (ret := (some .boolean)) (by decide) rfl ?_
  intro p e s m args below meth c s₁ B hml hv
  obtain ⟨rfl, hsz, hN, hE, hP, hK, hD0⟩ := hv
  have hx := B.exec
  have hb := B.bytes
  have hr := B.returns
  have hts := fun (w : Cond) (h : w ∈ kG) => atoms_spec (ws := kwX11_isNeighbour) B.pre w (List.mem_cons_of_mem _ h)
  have hown : s.vm.findClass RX11 = some m.cls := findClass_of_methodNamed B.named
  subst hsz
  have hD := hD0.self (sz := s.heap.size)
  generalize hAe : va_A [(h, oX11 th aw ai ab ac hi re aP ta po en be de fa a5 sp av an ak ne aW aC ag aT aN aF), (aw, kcI cI 2179 fw)] s.heap.size = A at hD hE ⊢
  have hA : ∀ q : Nat, s.heap.size ≤ q → A q := fun q h => by rw [← hAe]; exact Or.inr h
  have hl := lv_entry ([.ref h, .int mm, .int b]) (n := 3) (Nat.le_of_ble_eq_true rfl)
  rw [lg_entry_eq]
  generalize (lg_sl ([.ref h, .int mm, .int b]) ++ List.replicate (3 - (lg_sl ([.ref h, .int mm, .int b])).length) Slot.unset).toArray = ls at hl ⊢
  have hl : lv_has ls 3 [(0, .ref h), (1, .int mm), (2, .int b)] := hl
  obtain ⟨H, hH0⟩ : ∃ H, H = s.heap := ⟨_, rfl⟩
  have hS : va_S A s.heap H [] := by rw [hH0]; exact va_S.rf
  have hP : va_P D vwCl [(h, oX11 th aw ai ab ac hi re aP ta po en be de fa a5 sp av an ak ne aW aC ag aT aN aF), (aw, kcI cI 2179 fw)] H := by rw [hH0]; exact hP
  refine kHeap hH0 ?_
  clear hH0
  refine lv_iload_n hx hb dX11_isNeighbour_0 rfl (lv_at hl 1 rfl) ?_
  refine lv_iload_n hx hb dX11_isNeighbour_1 rfl (lv_at hl 2 rfl) ?_
  refine lv_icmp_eq (tgt := 35) hx hb dX11_isNeighbour_2 (by decide) (fun c14 => ?_) (fun c14 => ?_)
  · skip
    refine lv_iconst (v := 0) hx hb dX11_isNeighbour_35 (by decide) ?_
    have hP9 := hP.sub (ws' := [(h, oX11 th aw ai ab ac hi re aP ta po en be de fa a5 sp av an ak ne aW aC ag aT aN aF), (aw, kcI cI 2179 fw)]) [0, 1] rfl
    have hD9 := hD.sub (ws' := [(h, oX11 th aw ai ab ac hi re aP ta po en be de fa a5 sp av an ak ne aW aC ag aT aN aF), (aw, kcI cI 2179 fw)]) [0, 1] (by decide) rfl
    exact W.zret (v := 0) hx hb hr (by decide) (fun t ht hW => ⟨⟨0, (), rfl, ⟨(by unfold nbF; rw [if_pos (Int32.toInt_inj.mp (eqI c14))]), (rg_w (rg_lit (n := 0) (by decide)) (by decide)), (kif_t (eqI c14) rfl)⟩, by rw [ht]; exact hP9, va_K.moved hW.alike hK, hD9⟩, hS.F ht⟩) hS.2.2 dX11_isNeighbour_36
  · skip
    refine lv_aload_n hx hb dX11_isNeighbour_5 rfl (lv_at hl 0 rfl) ?_
    refine lv_iload_n hx hb dX11_isNeighbour_6 rfl (lv_at hl 1 rfl) ?_
    refine lv_iconst (v := 0) hx hb dX11_isNeighbour_7 (by decide) ?_
    refine kpurei (wc := [(h, oX11 th aw ai ab ac hi re aP ta po en be de fa a5 sp av an ak ne aW aC ag aT aN aF), (aw, kcI cI 2179 fw)]) hP hD hS hA [0, 1] rfl (by decide) (fun hPc hDc hFc => va_runV (As := [.int mm, .int 0]) (rest := []) ⟨hx, hb, hml, hown, hts⟩ (r_ofMan0 l D cI cJ cB cC h th aw ai ab ac hi re aP ta po en be de fa a5 sp av an ak ne aW aC ag aT aN aF fw mm H.size H_mm H_fw_W) (cwV 2 hts gX11_isNeighbour_X11_ofMan rfl rfl rfl ⟨rfl, hdX11_ofMan⟩ ⟨Nat.le_of_ble_eq_true rfl, Nat.le_of_ble_eq_true rfl⟩) ⟨kBlind, va_recv hK hPc (ci := 10) (q0 := 0) rfl rfl, fun U hU hW => ⟨rfl, by rw [hU], hN.warm hW, hE.pass hS hFc hW hU, by rw [hU]; exact hPc, va_K.moved hW.alike hK, hDc⟩⟩ rfl rfl hl.1 rfl (lv_room (Nat.le_of_ble_eq_true rfl)) dX11_isNeighbour_8 ⟨Nat.le_of_ble_eq_true rfl, Nat.le_of_ble_eq_true rfl⟩) (fun r15 u H locs hw hP hS => ?_)
    obtain ⟨k16, k17⟩ := hw
    refine lv_aload_n hx hb dX11_isNeighbour_11 rfl (lv_at hl 0 rfl) ?_
    refine lv_iload_n hx hb dX11_isNeighbour_12 rfl (lv_at hl 2 rfl) ?_
    refine lv_iconst (v := 0) hx hb dX11_isNeighbour_13 (by decide) ?_
    refine kpurei (wc := [(h, oX11 th aw ai ab ac hi re aP ta po en be de fa a5 sp av an ak ne aW aC ag aT aN aF), (aw, kcI cI 2179 fw)]) hP hD hS hA [0, 1] rfl (by decide) (fun hPc hDc hFc => va_runV (As := [.int b, .int 0]) (rest := [.int r15]) ⟨hx, hb, hml, hown, hts⟩ (r_ofMan0 l D cI cJ cB cC h th aw ai ab ac hi re aP ta po en be de fa a5 sp av an ak ne aW aC ag aT aN aF fw b H.size H_b H_fw_W) (cwV 2 hts gX11_isNeighbour_X11_ofMan rfl rfl rfl ⟨rfl, hdX11_ofMan⟩ ⟨Nat.le_of_ble_eq_true rfl, Nat.le_of_ble_eq_true rfl⟩) ⟨kBlind, va_recv hK hPc (ci := 10) (q0 := 0) rfl rfl, fun U hU hW => ⟨rfl, by rw [hU], hN.warm hW, hE.pass hS hFc hW hU, by rw [hU]; exact hPc, va_K.moved hW.alike hK, hDc⟩⟩ rfl rfl hl.1 rfl (lv_room (Nat.le_of_ble_eq_true rfl)) dX11_isNeighbour_14 ⟨Nat.le_of_ble_eq_true rfl, Nat.le_of_ble_eq_true rfl⟩) (fun r18 u H locs hw hP hS => ?_)
    obtain ⟨k19, k20⟩ := hw
    refine lv_isub hx hb dX11_isNeighbour_17 ?_
    refine lv_topi (fun x21 ex21 => ?_)
    refine va_mabs hx hb (by rw [hml]; exact hl.1.symm) hown (hts _ w27_15) (hts _ w26_22) (hts _ w8_7) (hts _ w26_23) (Nat.le_of_ble_eq_true rfl) (Nat.le_of_ble_eq_true rfl) (Nat.le_of_ble_eq_true rfl) (Nat.le_of_ble_eq_true rfl) dX11_isNeighbour_18 ?_
    refine lv_topi (fun x22 ex22 => ?_)
    refine lv_aload_n hx hb dX11_isNeighbour_21 rfl (lv_at hl 0 rfl) ?_
    refine va_get (D := D) (ci := 10) (v := .ref aw) (C := RX11) (T := TX11) (N := 26) hx hb hts iG_X11 hown hK hP 0 rfl rfl 1 (by decide) (hts _ w5_3) (fun _ h9 => h9) rfl dX11_isNeighbour_22 ?_
    refine lv_bipush (v := 6) hx hb dX11_isNeighbour_25 (by decide) ?_
    refine va_iald hx hb hK hP 1 0 rfl rfl (rg_in (rg_lit (n := 6) (by decide)) (by decide)) dX11_isNeighbour_27 ?_
    refine lv_topi (fun x23 ex23 => ?_)
    refine lv_icmp_gt (tgt := 35) hx hb dX11_isNeighbour_28 (by decide) (fun c24 => ?_) (fun c24 => ?_)
    · skip
      have k25 : Rg x22 (-2147483647) 2147483647 := rg_l2 (ltI c24) (rg_any x23) (rg_any x22) (by decide)
      have k26 : Rg x23 (-2147483648) 2147483646 := rg_l1 (ltI c24) (rg_any x23) (rg_any x22) (by decide)
      refine lv_iconst (v := 0) hx hb dX11_isNeighbour_35 (by decide) ?_
      have hP9 := hP.sub (ws' := [(h, oX11 th aw ai ab ac hi re aP ta po en be de fa a5 sp av an ak ne aW aC ag aT aN aF), (aw, kcI cI 2179 fw)]) [0, 1] rfl
      have hD9 := hD.sub (ws' := [(h, oX11 th aw ai ab ac hi re aP ta po en be de fa a5 sp av an ak ne aW aC ag aT aN aF), (aw, kcI cI 2179 fw)]) [0, 1] (by decide) rfl
      exact W.zret (v := 0) hx hb hr (by decide) (fun t ht hW => ⟨⟨0, (), rfl, ⟨(by have q6 : fw 6 = x23 := ex23.symm; unfold nbF absF; rw [if_neg c14, ← k16, ← k19, ← ex21, ← ex22, q6, if_neg (by have q1 := (ltI c24); omega)]), (rg_w (rg_lit (n := 0) (by decide)) (by decide)), (kif_f (neI c14) (kLet_eq (k17).symm (kLet_eq (k20).symm (kLet_eq (ke_wsub ex21) (kLet_eq (ke_abs ex22) (kLet_eq (ke_ld ex23) (kif_t (ltI c24) rfl)))))))⟩, by rw [ht]; exact hP9, va_K.moved hW.alike hK, hD9⟩, hS.F ht⟩) hS.2.2 dX11_isNeighbour_36
    · skip
      refine lv_iconst (v := 1) hx hb dX11_isNeighbour_31 (by decide) ?_
      refine lv_goto (tgt := 36) hx hb dX11_isNeighbour_32 (by decide) ?_
      have hP9 := hP.sub (ws' := [(h, oX11 th aw ai ab ac hi re aP ta po en be de fa a5 sp av an ak ne aW aC ag aT aN aF), (aw, kcI cI 2179 fw)]) [0, 1] rfl
      have hD9 := hD.sub (ws' := [(h, oX11 th aw ai ab ac hi re aP ta po en be de fa a5 sp av an ak ne aW aC ag aT aN aF), (aw, kcI cI 2179 fw)]) [0, 1] (by decide) rfl
      exact W.zret (v := 1) hx hb hr (by decide) (fun t ht hW => ⟨⟨1, (), rfl, ⟨(by have q6 : fw 6 = x23 := ex23.symm; unfold nbF absF; rw [if_neg c14, ← k16, ← k19, ← ex21, ← ex22, q6, if_pos (nltI c24)]), (rg_w (rg_lit (n := 1) (by decide)) (by decide)), (kif_f (neI c14) (kLet_eq (k17).symm (kLet_eq (k20).symm (kLet_eq (ke_wsub ex21) (kLet_eq (ke_abs ex22) (kLet_eq (ke_ld ex23) (kif_f (xF_lt c24) rfl)))))))⟩, by rw [ht]; exact hP9, va_K.moved hW.alike hK, hD9⟩, hS.F ht⟩) hS.2.2 dX11_isNeighbour_36

set_option maxHeartbeats 4000000 in
set_option maxRecDepth 100000 in
/-- reference: isNextToLast -/
theorem r_isNextToLastx (l : Launch) (D : va_G) (cI cJ cB cC : ClassId) (h : Nat) (th : Int32) (aw : Nat) (ai : Nat) (ab : Nat) (ac : Nat) (hi : Int32) (re : Int32) (aP : Nat) (ta : Int32) (po : Int32) (en : Int32) (be : Int32) (de : Int32) (fa : Int32) (a5 : Nat) (sp : Int32) (av : Nat) (an : Nat) (ak : Nat) (ne : Int32) (aW : Nat) (aC : Nat) (ag : Nat) (aT : Nat) (aN : Nat) (aF : Nat) (fw : Nat → Int32) (mm : Int32) (b : Int32) (sz : Nat) (H_mm : Rg mm 0 9) (H_b : Rg b 0 11) (H_fw_W : wW fw) : Met l yX11_isNextToLast kwX11_isNextToLast ({ frames := 2, cells := 0, slots := 0, locals := 44 } : Room) (kPre D (kT cI cJ cB cC) sz [(h, oX11 th aw ai ab ac hi re aP ta po en be de fa a5 sp av an ak ne aW aC ag aT aN aF), (aw, kcI cI 2179 fw)] [.ref h, .int mm, .int b]) (va_Qi (fun (r : Int32) (_ : Unit) => r = nlF fw mm b ∧ Rg r 0 1 ∧ F_r_isNextToLastx (gT fw) (mm : Int32).toInt (b : Int32).toInt = ((r : Int32).toInt)) (fun (_ : Unit) (t : State) => kB D (kT cI cJ cB cC) (va_A [(h, oX11 th aw ai ab ac hi re aP ta po en be de fa a5 sp av an ak ne aW aC ag aT aN aF), (aw, kcI cI 2179 fw)] sz) [(h, oX11 th aw ai ab ac hi re aP ta po en be de fa a5 sp av an ak ne aW aC ag aT aN aF), (aw, kcI cI 2179 fw)] t) (va_A [(h, oX11 th aw ai ab ac hi re aP ta po en be de fa a5 sp av an ak ne aW aC ag aT aN aF), (aw, kcI cI 2179 fw)] sz)) 0 0 (va_A [(h, oX11 th aw ai ab ac hi re aP ta po en be de fa a5 sp av an ak ne aW aC ag aT aN aF), (aw, kcI cI 2179 fw)] sz) := by
  refine Met.ofW (cc := cX11_isNextToLast) (maxL := 3) (ret := (some .boolean)) (by decide) rfl ?_
  intro p e s m args below meth c s₁ B hml hv
  obtain ⟨rfl, hsz, hN, hE, hP, hK, hD0⟩ := hv
  have hx := B.exec
  have hb := B.bytes
  have hr := B.returns
  have hts := fun (w : Cond) (h : w ∈ kG) => atoms_spec (ws := kwX11_isNextToLast) B.pre w (List.mem_cons_of_mem _ h)
  have hown : s.vm.findClass RX11 = some m.cls := findClass_of_methodNamed B.named
  subst hsz
  have hD := hD0.self (sz := s.heap.size)
  generalize hAe : va_A [(h, oX11 th aw ai ab ac hi re aP ta po en be de fa a5 sp av an ak ne aW aC ag aT aN aF), (aw, kcI cI 2179 fw)] s.heap.size = A at hD hE ⊢
  have hA : ∀ q : Nat, s.heap.size ≤ q → A q := fun q h => by rw [← hAe]; exact Or.inr h
  have hl := lv_entry ([.ref h, .int mm, .int b]) (n := 3) (Nat.le_of_ble_eq_true rfl)
  rw [lg_entry_eq]
  generalize (lg_sl ([.ref h, .int mm, .int b]) ++ List.replicate (3 - (lg_sl ([.ref h, .int mm, .int b])).length) Slot.unset).toArray = ls at hl ⊢
  have hl : lv_has ls 3 [(0, .ref h), (1, .int mm), (2, .int b)] := hl
  obtain ⟨H, hH0⟩ : ∃ H, H = s.heap := ⟨_, rfl⟩
  have hS : va_S A s.heap H [] := by rw [hH0]; exact va_S.rf
  have hP : va_P D vwCl [(h, oX11 th aw ai ab ac hi re aP ta po en be de fa a5 sp av an ak ne aW aC ag aT aN aF), (aw, kcI cI 2179 fw)] H := by rw [hH0]; exact hP
  refine kHeap hH0 ?_
  clear hH0
  refine lv_aload_n hx hb dX11_isNextToLast_0 rfl (lv_at hl 0 rfl) ?_
  refine lv_iload_n hx hb dX11_isNextToLast_1 rfl (lv_at hl 2 rfl) ?_
  refine lv_bipush (v := 6) hx hb dX11_isNextToLast_2 (by decide) ?_
  refine kpurei (wc := [(h, oX11 th aw ai ab ac hi re aP ta po en be de fa a5 sp av an ak ne aW aC ag aT aN aF), (aw, kcI cI 2179 fw)]) hP hD hS hA [0, 1] rfl (by decide) (fun hPc hDc hFc => va_runV (As := [.int b, .int 6]) (rest := []) ⟨hx, hb, hml, hown, hts⟩ (r_of6 l D cI cJ cB cC h th aw ai ab ac hi re aP ta po en be de fa a5 sp av an ak ne aW aC ag aT aN aF fw b H.size H_b H_fw_W) (cwV 2 hts gX11_isNextToLast_X11_of rfl rfl rfl ⟨rfl, hdX11_of⟩ ⟨Nat.le_of_ble_eq_true rfl, Nat.le_of_ble_eq_true rfl⟩) ⟨kBlind, va_recv hK hPc (ci := 10) (q0 := 0) rfl rfl, fun U hU hW => ⟨rfl, by rw [hU], hN.warm hW, hE.pass hS hFc hW hU, by rw [hU]; exact hPc, va_K.moved hW.alike hK, hDc⟩⟩ rfl rfl hl.1 rfl (lv_room (Nat.le_of_ble_eq_true rfl)) dX11_isNextToLast_4 ⟨Nat.le_of_ble_eq_true rfl, Nat.le_of_ble_eq_true rfl⟩) (fun r1 u H locs hw hP hS => ?_)
  obtain ⟨k2, k3, k4⟩ := hw
  refine lv_if_lt (tgt := 29) hx hb dX11_isNextToLast_7 (by decide) (fun c19 => ?_) (fun c19 => ?_)
  · skip
    have k20 : Rg r1 (-1) (-1) := rg_l1 (ltI c19) k3 (rg_lit (n := 0) (by decide)) (by decide)
    refine lv_iconst (v := 0) hx hb dX11_isNextToLast_29 (by decide) ?_
    have hP9 := hP.sub (ws' := [(h, oX11 th aw ai ab ac hi re aP ta po en be de fa a5 sp av an ak ne aW aC ag aT aN aF), (aw, kcI cI 2179 fw)]) [0, 1] rfl
    have hD9 := hD.sub (ws' := [(h, oX11 th aw ai ab ac hi re aP ta po en be de fa a5 sp av an ak ne aW aC ag aT aN aF), (aw, kcI cI 2179 fw)]) [0, 1] (by decide) rfl
    exact W.zret (v := 0) hx hb hr (by decide) (fun t ht hW => ⟨⟨0, (), rfl, ⟨(by unfold nlF; rw [← k2, if_neg (by have q1 := (ltI c19); have q2 : (0 : Int32).toInt = 0 := (by decide); omega)]), (rg_w (rg_lit (n := 0) (by decide)) (by decide)), (kLet_eq (k4).symm (kif_t (ltI c19) rfl))⟩, by rw [ht]; exact hP9, va_K.moved hW.alike hK, hD9⟩, hS.F ht⟩) hS.2.2 dX11_isNextToLast_30
  · skip
    have k21 : Rg r1 0 9 := rg_e2 (nltI c19) (rg_lit (n := 0) (by decide)) k3 (by decide)
    refine lv_aload_n hx hb dX11_isNextToLast_10 rfl (lv_at hl 0 rfl) ?_
    refine lv_iload_n hx hb dX11_isNextToLast_11 rfl (lv_at hl 1 rfl) ?_
    refine lv_aload_n hx hb dX11_isNextToLast_12 rfl (lv_at hl 0 rfl) ?_
    refine lv_iload_n hx hb dX11_isNextToLast_13 rfl (lv_at hl 2 rfl) ?_
    refine lv_bipush (v := 6) hx hb dX11_isNextToLast_14 (by decide) ?_
    refine kpurei (wc := [(h, oX11 th aw ai ab ac hi re aP ta po en be de fa a5 sp av an ak ne aW aC ag aT aN aF), (aw, kcI cI 2179 fw)]) hP hD hS hA [0, 1] rfl (by decide) (fun hPc hDc hFc => va_runV (As := [.int b, .int 6]) (rest := [.int mm, .ref h]) ⟨hx, hb, hml, hown, hts⟩ (r_of6 l D cI cJ cB cC h th aw ai ab ac hi re aP ta po en be de fa a5 sp av an ak ne aW aC ag aT aN aF fw b H.size H_b H_fw_W) (cwV 2 hts gX11_isNextToLast_X11_of rfl rfl rfl ⟨rfl, hdX11_of⟩ ⟨Nat.le_of_ble_eq_true rfl, Nat.le_of_ble_eq_true rfl⟩) ⟨kBlind, va_recv hK hPc (ci := 10) (q0 := 0) rfl rfl, fun U hU hW => ⟨rfl, by rw [hU], hN.warm hW, hE.pass hS hFc hW hU, by rw [hU]; exact hPc, va_K.moved hW.alike hK, hDc⟩⟩ rfl rfl hl.1 rfl (lv_room (Nat.le_of_ble_eq_true rfl)) dX11_isNextToLast_16 ⟨Nat.le_of_ble_eq_true rfl, Nat.le_of_ble_eq_true rfl⟩) (fun r22 u H locs hw hP hS => ?_)
    obtain ⟨k23, k24, k25⟩ := hw
    obtain rfl : r1 = r22 := k2.trans k23.symm
    refine kpurei (wc := [(h, oX11 th aw ai ab ac hi re aP ta po en be de fa a5 sp av an ak ne aW aC ag aT aN aF), (aw, kcI cI 2179 fw)]) hP hD hS hA [0, 1] rfl (by decide) (fun hPc hDc hFc => va_runV (As := [.int mm, .int r1]) (rest := []) ⟨hx, hb, hml, hown, hts⟩ (r_isNeighbourx l D cI cJ cB cC h th aw ai ab ac hi re aP ta po en be de fa a5 sp av an ak ne aW aC ag aT aN aF fw mm r1 H.size H_mm k21 H_fw_W) (cwV 2 hts gX11_isNextToLast_X11_isNeighbour rfl rfl rfl ⟨rfl, hdX11_isNeighbour⟩ ⟨Nat.le_of_ble_eq_true rfl, Nat.le_of_ble_eq_true rfl⟩) ⟨kBlind, va_recv hK hPc (ci := 10) (q0 := 0) rfl rfl, fun U hU hW => ⟨rfl, by rw [hU], hN.warm hW, hE.pass hS hFc hW hU, by rw [hU]; exact hPc, va_K.moved hW.alike hK, hDc⟩⟩ rfl rfl hl.1 rfl (lv_room (Nat.le_of_ble_eq_true rfl)) dX11_isNextToLast_19 ⟨Nat.le_of_ble_eq_true rfl, Nat.le_of_ble_eq_true rfl⟩) (fun r26 u H locs hw hP hS => ?_)
    obtain ⟨k27, k28, k29⟩ := hw
    refine lv_if_eq (tgt := 29) hx hb dX11_isNextToLast_22 (by decide) (fun c30 => ?_) (fun c30 => ?_)
    · skip
      have k31 : Rg r26 0 0 := rg_q1 (eqI c30) k28 (rg_lit (n := 0) (by decide)) (by decide)
      refine lv_iconst (v := 0) hx hb dX11_isNextToLast_29 (by decide) ?_
      have hP9 := hP.sub (ws' := [(h, oX11 th aw ai ab ac hi re aP ta po en be de fa a5 sp av an ak ne aW aC ag aT aN aF), (aw, kcI cI 2179 fw)]) [0, 1] rfl
      have hD9 := hD.sub (ws' := [(h, oX11 th aw ai ab ac hi re aP ta po en be de fa a5 sp av an ak ne aW aC ag aT aN aF), (aw, kcI cI 2179 fw)]) [0, 1] (by decide) rfl
      exact W.zret (v := 0) hx hb hr (by decide) (fun t ht hW => ⟨⟨0, (), rfl, ⟨(by unfold nlF; rw [← k2, if_pos (by have q1 := k21; unfold Rg at q1; omega), ← k27]; exact (Int32.toInt_inj.mp (by have q1 := k31; unfold Rg at q1; have q2 : (0 : Int32).toInt = 0 := (by decide); omega)).symm), (rg_w (rg_lit (n := 0) (by decide)) (by decide)), (kLet_eq (k4).symm (kif_f (xF_lt c19) (kLet_eq (k25).symm (kLet_eq (k29).symm (kif_t (eqI c30) rfl)))))⟩, by rw [ht]; exact hP9, va_K.moved hW.alike hK, hD9⟩, hS.F ht⟩) hS.2.2 dX11_isNextToLast_30
    · skip
      have k32 : Rg r26 1 1 := rg_n1 (neI c30) k28 (rg_lit (n := 0) (by decide)) (by decide)
      refine lv_iconst (v := 1) hx hb dX11_isNextToLast_25 (by decide) ?_
      refine lv_goto (tgt := 30) hx hb dX11_isNextToLast_26 (by decide) ?_
      have hP9 := hP.sub (ws' := [(h, oX11 th aw ai ab ac hi re aP ta po en be de fa a5 sp av an ak ne aW aC ag aT aN aF), (aw, kcI cI 2179 fw)]) [0, 1] rfl
      have hD9 := hD.sub (ws' := [(h, oX11 th aw ai ab ac hi re aP ta po en be de fa a5 sp av an ak ne aW aC ag aT aN aF), (aw, kcI cI 2179 fw)]) [0, 1] (by decide) rfl
      exact W.zret (v := 1) hx hb hr (by decide) (fun t ht hW => ⟨⟨1, (), rfl, ⟨(by unfold nlF; rw [← k2, if_pos (by have q1 := k21; unfold Rg at q1; omega), ← k27]; exact (Int32.toInt_inj.mp (by have q1 := k32; unfold Rg at q1; have q2 : (1 : Int32).toInt = 1 := (by decide); omega)).symm), (rg_w (rg_lit (n := 1) (by decide)) (by decide)), (kLet_eq (k4).symm (kif_f (xF_lt c19) (kLet_eq (k25).symm (kLet_eq (k29).symm (kif_f (neI c30) rfl)))))⟩, by rw [ht]; exact hP9, va_K.moved hW.alike hK, hD9⟩, hS.F ht⟩) hS.2.2 dX11_isNextToLast_30

set_option maxHeartbeats 4000000 in
set_option maxRecDepth 100000 in
/-- reference: of -/
theorem r_ofx (l : Launch) (D : va_G) (cI cJ cB cC : ClassId) (h : Nat) (th : Int32) (aw : Nat) (ai : Nat) (ab : Nat) (ac : Nat) (hi : Int32) (re : Int32) (aP : Nat) (ta : Int32) (po : Int32) (en : Int32) (be : Int32) (de : Int32) (fa : Int32) (a5 : Nat) (sp : Int32) (av : Nat) (an : Nat) (ak : Nat) (ne : Int32) (aW : Nat) (aC : Nat) (ag : Nat) (aT : Nat) (aN : Nat) (aF : Nat) (fw : Nat → Int32) (mm : Int32) (w : Int32) (sz : Nat) (H_mm : Rg mm 0 11) (H_w : Rg w 0 6) (H_fw_W : wW fw) : Met l yX11_of kwX11_of ({ frames := 0, cells := 0, slots := 0, locals := 0 } : Room) (kPre D (kT cI cJ cB cC) sz [(h, oX11 th aw ai ab ac hi re aP ta po en be de fa a5 sp av an ak ne aW aC ag aT aN aF), (aw, kcI cI 2179 fw)] [.ref h, .int mm, .int w]) (va_Qi (fun (r : Int32) (_ : Unit) => r = fw (61 + 7 * cN mm + cN w) ∧ F_r_ofx (gT fw) (mm : Int32).toInt (w : Int32).toInt = ((r : Int32).toInt)) (fun (_ : Unit) (t : State) => kB D (kT cI cJ cB cC) (va_A [(h, oX11 th aw ai ab ac hi re aP ta po en be de fa a5 sp av an ak ne aW aC ag aT aN aF), (aw, kcI cI 2179 fw)] sz) [(h, oX11 th aw ai ab ac hi re aP ta po en be de fa a5 sp av an ak ne aW aC ag aT aN aF), (aw, kcI cI 2179 fw)] t) (va_A [(h, oX11 th aw ai ab ac hi re aP ta po en be de fa a5 sp av an ak ne aW aC ag aT aN aF), (aw, kcI cI 2179 fw)] sz)) 0 0 (va_A [(h, oX11 th aw ai ab ac hi re aP ta po en be de fa a5 sp av an ak ne aW aC ag aT aN aF), (aw, kcI cI 2179 fw)] sz) := by
  refine Met.ofW (cc := cX11_of) (maxL := 3) (ret := (some .int)) (by decide) rfl ?_
  intro p e s m args below meth c s₁ B hml hv
  obtain ⟨rfl, hsz, hN, hE, hP, hK, hD0⟩ := hv
  have hx := B.exec
  have hb := B.bytes
  have hr := B.returns
  have hts := fun (w : Cond) (h : w ∈ kG) => atoms_spec (ws := kwX11_of) B.pre w (List.mem_cons_of_mem _ h)
  have hown : s.vm.findClass RX11 = some m.cls := findClass_of_methodNamed B.named
  subst hsz
  have hD := hD0.self (sz := s.heap.size)
  generalize hAe : va_A [(h, oX11 th aw ai ab ac hi re aP ta po en be de fa a5 sp av an ak ne aW aC ag aT aN aF), (aw, kcI cI 2179 fw)] s.heap.size = A at hD hE ⊢
  have hA : ∀ q : Nat, s.heap.size ≤ q → A q := fun q h => by rw [← hAe]; exact Or.inr h
  have hl := lv_entry ([.ref h, .int mm, .int w]) (n := 3) (Nat.le_of_ble_eq_true rfl)
  rw [lg_entry_eq]
  generalize (lg_sl ([.ref h, .int mm, .int w]) ++ List.replicate (3 - (lg_sl ([.ref h, .int mm, .int w])).length) Slot.unset).toArray = ls at hl ⊢
  have hl : lv_has ls 3 [(0, .ref h), (1, .int mm), (2, .int w)] := hl
  obtain ⟨H, hH0⟩ : ∃ H, H = s.heap := ⟨_, rfl⟩
  have hS : va_S A s.heap H [] := by rw [hH0]; exact va_S.rf
  have hP : va_P D vwCl [(h, oX11 th aw ai ab ac hi re aP ta po en be de fa a5 sp av an ak ne aW aC ag aT aN aF), (aw, kcI cI 2179 fw)] H := by rw [hH0]; exact hP
  refine kHeap hH0 ?_
  clear hH0
  refine lv_aload_n hx hb dX11_of_0 rfl (lv_at hl 0 rfl) ?_
  refine va_get (D := D) (ci := 10) (v := .ref aw) (C := RX11) (T := TX11) (N := 26) hx hb hts iG_X11 hown hK hP 0 rfl rfl 1 (by decide) (hts _ w5_3) (fun _ h9 => h9) rfl dX11_of_1 ?_
  refine lv_bipush (v := 61) hx hb dX11_of_4 (by decide) ?_
  refine lv_bipush (v := 7) hx hb dX11_of_6 (by decide) ?_
  refine lv_iload_n hx hb dX11_of_8 rfl (lv_at hl 1 rfl) ?_
  refine lv_imul hx hb dX11_of_9 ?_
  refine lv_topi (fun x1 ex1 => ?_)
  have tx1 : x1.toInt = 7 * mm.toInt := ti_mul ex1 (rg_lit (n := 7) (by decide)) H_mm (by decide) (by decide) rfl
  have k2 : Rg x1 0 77 := rg_mul ex1 (rg_lit (n := 7) (by decide)) H_mm (by decide)
  refine lv_iadd hx hb dX11_of_10 ?_
  refine lv_topi (fun x3 ex3 => ?_)
  have tx3 : x3.toInt = 61 + x1.toInt := ti_add ex3 (rg_lit (n := 61) (by decide)) k2 (by decide) (by decide) rfl
  have k4 : Rg x3 61 138 := rg_add ex3 (rg_lit (n := 61) (by decide)) k2 (by decide)
  refine lv_iload_n hx hb dX11_of_11 rfl (lv_at hl 2 rfl) ?_
  refine lv_iadd hx hb dX11_of_12 ?_
  refine lv_topi (fun x5 ex5 => ?_)
  have tx5 : x5.toInt = x3.toInt + w.toInt := ti_add ex5 k4 H_w (by decide) rfl rfl
  have k6 : Rg x5 61 144 := rg_add ex5 k4 H_w (by decide)
  refine va_iald hx hb hK hP 1 0 rfl rfl (rg_in k6 (by decide)) dX11_of_13 ?_
  refine lv_topi (fun x7 ex7 => ?_)
  have hP9 := hP.sub (ws' := [(h, oX11 th aw ai ab ac hi re aP ta po en be de fa a5 sp av an ak ne aW aC ag aT aN aF), (aw, kcI cI 2179 fw)]) [0, 1] rfl
  have hD9 := hD.sub (ws' := [(h, oX11 th aw ai ab ac hi re aP ta po en be de fa a5 sp av an ak ne aW aC ag aT aN aF), (aw, kcI cI 2179 fw)]) [0, 1] (by decide) rfl
  exact W.iret (v := x7) hx hb hr (fun t ht hW => ⟨⟨x7, (), rfl, ⟨(by rw [ex7, cl_of (k := 61 + 7 * cN mm + cN w) k6 (by decide) (by simp only [cN]; have q0 := tx1; have q1 := tx3; have q2 := tx5; have q4 := H_mm; have q5 := H_w; have q6 : (0 : Int32).toInt = 0 := (by decide); have q7 : (1 : Int32).toInt = 1 := (by decide); unfold Rg at *; omega)]), (kLet_eq (ti_mul ex1 (rg_lit (n := 7) (by decide)) H_mm (by decide) rfl rfl) (kLet_eq (ti_add ex3 (rg_lit (n := 61) (by decide)) k2 (by decide) rfl rfl) (kLet_eq (ti_add ex5 k4 H_w (by decide) rfl rfl) (kLet_eq (ke_ld ex7) rfl))))⟩, by rw [ht]; exact hP9, va_K.moved hW.alike hK, hD9⟩, hS.F ht⟩) hS.2.2 dX11_of_14

set_option maxHeartbeats 4000000 in
set_option maxRecDepth 100000 in
/-- reference: factOf -/
theorem r_factOfx (l : Launch) (D : va_G) (cI cJ cB cC : ClassId) (h : Nat) (th : Int32) (aw : Nat) (ai : Nat) (ab : Nat) (ac : Nat) (hi : Int32) (re : Int32) (aP : Nat) (ta : Int32) (po : Int32) (en : Int32) (be : Int32) (de : Int32) (fa : Int32) (a5 : Nat) (sp : Int32) (av : Nat) (an : Nat) (ak : Nat) (ne : Int32) (aW : Nat) (aC : Nat) (ag : Nat) (aT : Nat) (aN : Nat) (aF : Nat) (fw : Nat → Int32) (st : Int32) (n : Int32) (mm : Int32) (b : Int32) (sz : Nat) (H_mm : Rg mm 0 9) (H_b : Rg b 0 11) (H_st : Rg st 0 12) (H_fw_W : wW fw) : Met l yX11_factOf kwX11_factOf ({ frames := 3, cells := 0, slots := 0, locals := 66 } : Room) (kPre D (kT cI cJ cB cC) sz [(h, oX11 th aw ai ab ac hi re aP ta po en be de fa a5 sp av an ak ne aW aC ag aT aN aF), (aw, kcI cI 2179 fw)] [.ref h, .int st, .int n, .int mm, .int b]) (va_Qi (fun (r : Int32) (_ : Unit) => r = ftF fw st n mm b ∧ F_r_factOfx (gT fw) (st : Int32).toInt (n : Int32).toInt (mm : Int32).toInt (b : Int32).toInt = ((r : Int32).toInt)) (fun (_ : Unit) (t : State) => kB D (kT cI cJ cB cC) (va_A [(h, oX11 th aw ai ab ac hi re aP ta po en be de fa a5 sp av an ak ne aW aC ag aT aN aF), (aw, kcI cI 2179 fw)] sz) [(h, oX11 th aw ai ab ac hi re aP ta po en be de fa a5 sp av an ak ne aW aC ag aT aN aF), (aw, kcI cI 2179 fw)] t) (va_A [(h, oX11 th aw ai ab ac hi re aP ta po en be de fa a5 sp av an ak ne aW aC ag aT aN aF), (aw, kcI cI 2179 fw)] sz)) 0 0 (va_A [(h, oX11 th aw ai ab ac hi re aP ta po en be de fa a5 sp av an ak ne aW aC ag aT aN aF), (aw, kcI cI 2179 fw)] sz) := by
  refine Met.ofW (cc := cX11_factOf) (maxL := 5) (ret := (some .int)) (by decide) rfl ?_
  intro p e s m args below meth c s₁ B hml hv
  obtain ⟨rfl, hsz, hN, hE, hP, hK, hD0⟩ := hv
  have hx := B.exec
  have hb := B.bytes
  have hr := B.returns
  have hts := fun (w : Cond) (h : w ∈ kG) => atoms_spec (ws := kwX11_factOf) B.pre w (List.mem_cons_of_mem _ h)
  have hown : s.vm.findClass RX11 = some m.cls := findClass_of_methodNamed B.named
  subst hsz
  have hD := hD0.self (sz := s.heap.size)
  generalize hAe : va_A [(h, oX11 th aw ai ab ac hi re aP ta po en be de fa a5 sp av an ak ne aW aC ag aT aN aF), (aw, kcI cI 2179 fw)] s.heap.size = A at hD hE ⊢
  have hA : ∀ q : Nat, s.heap.size ≤ q → A q := fun q h => by rw [← hAe]; exact Or.inr h
  have hl := lv_entry ([.ref h, .int st, .int n, .int mm, .int b]) (n := 5) (Nat.le_of_ble_eq_true rfl)
  rw [lg_entry_eq]
  generalize (lg_sl ([.ref h, .int st, .int n, .int mm, .int b]) ++ List.replicate (5 - (lg_sl ([.ref h, .int st, .int n, .int mm, .int b])).length) Slot.unset).toArray = ls at hl ⊢
  have hl : lv_has ls 5 [(0, .ref h), (1, .int st), (2, .int n), (3, .int mm), (4, .int b)] := hl
  obtain ⟨H, hH0⟩ : ∃ H, H = s.heap := ⟨_, rfl⟩
  have hS : va_S A s.heap H [] := by rw [hH0]; exact va_S.rf
  have hP : va_P D vwCl [(h, oX11 th aw ai ab ac hi re aP ta po en be de fa a5 sp av an ak ne aW aC ag aT aN aF), (aw, kcI cI 2179 fw)] H := by rw [hH0]; exact hP
  refine kHeap hH0 ?_
  clear hH0
  refine lv_iload_n hx hb dX11_factOf_0 rfl (lv_at hl 1 rfl) ?_
  refine lv_iconst (v := 4) hx hb dX11_factOf_1 (by decide) ?_
  refine lv_icmp_gt (tgt := 13) hx hb dX11_factOf_2 (by decide) (fun c1 => ?_) (fun c1 => ?_)
  · skip
    have k2 : Rg st 5 12 := rg_l2 (ltI c1) (rg_lit (n := 4) (by decide)) H_st (by decide)
    refine lv_iload_n hx hb dX11_factOf_13 rfl (lv_at hl 1 rfl) ?_
    by_cases c3 : st.toInt < 5 ∨ 11 < st.toInt
    · skip
      refine lv_tableOut (tgt := 140) hx hb dX11_factOf_14 c3 (by decide) ?_
      refine lv_iload_n hx hb dX11_factOf_140 rfl (lv_at hl 2 rfl) ?_
      have hP9 := hP.sub (ws' := [(h, oX11 th aw ai ab ac hi re aP ta po en be de fa a5 sp av an ak ne aW aC ag aT aN aF), (aw, kcI cI 2179 fw)]) [0, 1] rfl
      have hD9 := hD.sub (ws' := [(h, oX11 th aw ai ab ac hi re aP ta po en be de fa a5 sp av an ak ne aW aC ag aT aN aF), (aw, kcI cI 2179 fw)]) [0, 1] (by decide) rfl
      exact W.iret (v := n) hx hb hr (fun t ht hW => ⟨⟨n, (), rfl, ⟨(by rw [ft_12 (by have q1 := c3; have q2 := k2; unfold Rg at q2; omega)]), (kif_t (ltI c1) (kif_t c3 rfl))⟩, by rw [ht]; exact hP9, va_K.moved hW.alike hK, hD9⟩, hS.F ht⟩) hS.2.2 dX11_factOf_141
    · skip
      have k4 : Rg st 5 11 := rg_tab c3 k2 (by decide)
      rcases (show st.toInt = 5 ∨ st.toInt = 6 ∨ st.toInt = 7 ∨ st.toInt = 8 ∨ st.toInt = 9 ∨ st.toInt = 10 ∨ st.toInt = 11 by have q := k4; unfold Rg at q; omega) with c5 | c5 | c5 | c5 | c5 | c5 | c5
      · skip
        refine lv_tableIn (tgt := 56) (off := 42) hx hb dX11_factOf_14 (by rw [c5]; decide) (by rw [c5]; decide) (by rw [c5]; rfl) (by decide) ?_
        have k6 : Rg st 5 5 := rg_toI c5
        refine lv_aload_n hx hb dX11_factOf_56 rfl (lv_at hl 0 rfl) ?_
        refine lv_iload_n hx hb dX11_factOf_57 rfl (lv_at hl 3 rfl) ?_
        refine lv_iconst (v := 1) hx hb dX11_factOf_58 (by decide) ?_
        refine kpurei (wc := [(h, oX11 th aw ai ab ac hi re aP ta po en be de fa a5 sp av an ak ne aW aC ag aT aN aF), (aw, kcI cI 2179 fw)]) hP hD hS hA [0, 1] rfl (by decide) (fun hPc hDc hFc => va_runV (As := [.int mm, .int 1]) (rest := []) ⟨hx, hb, hml, hown, hts⟩ (r_ofMan1 l D cI cJ cB cC h th aw ai ab ac hi re aP ta po en be de fa a5 sp av an ak ne aW aC ag aT aN aF fw mm H.size H_mm H_fw_W) (cwV 2 hts gX11_factOf_X11_ofMan rfl rfl rfl ⟨rfl, hdX11_ofMan⟩ ⟨Nat.le_of_ble_eq_true rfl, Nat.le_of_ble_eq_true rfl⟩) ⟨kBlind, va_recv hK hPc (ci := 10) (q0 := 0) rfl rfl, fun U hU hW => ⟨rfl, by rw [hU], hN.warm hW, hE.pass hS hFc hW hU, by rw [hU]; exact hPc, va_K.moved hW.alike hK, hDc⟩⟩ rfl rfl hl.1 rfl (lv_room (Nat.le_of_ble_eq_true rfl)) dX11_factOf_59 ⟨Nat.le_of_ble_eq_true rfl, Nat.le_of_ble_eq_true rfl⟩) (fun r7 u H locs hw hP hS => ?_)
        obtain ⟨k8, k9⟩ := hw
        have hP9 := hP.sub (ws' := [(h, oX11 th aw ai ab ac hi re aP ta po en be de fa a5 sp av an ak ne aW aC ag aT aN aF), (aw, kcI cI 2179 fw)]) [0, 1] rfl
        have hD9 := hD.sub (ws' := [(h, oX11 th aw ai ab ac hi re aP ta po en be de fa a5 sp av an ak ne aW aC ag aT aN aF), (aw, kcI cI 2179 fw)]) [0, 1] (by decide) rfl
        exact W.iret (v := r7) hx hb hr (fun t ht hW => ⟨⟨r7, (), rfl, ⟨(by rw [ft_5 (rg_one k6)]; exact k8), (kif_t (ltI c1) (kif_f c3 (kif_t c5 (kLet_eq (k9).symm rfl))))⟩, by rw [ht]; exact hP9, va_K.moved hW.alike hK, hD9⟩, hS.F ht⟩) hS.2.2 dX11_factOf_62
      · skip
        refine lv_tableIn (tgt := 63) (off := 49) hx hb dX11_factOf_14 (by rw [c5]; decide) (by rw [c5]; decide) (by rw [c5]; rfl) (by decide) ?_
        have k10 : Rg st 6 6 := rg_toI c5
        refine lv_aload_n hx hb dX11_factOf_63 rfl (lv_at hl 0 rfl) ?_
        refine lv_iload_n hx hb dX11_factOf_64 rfl (lv_at hl 3 rfl) ?_
        refine lv_iconst (v := 0) hx hb dX11_factOf_65 (by decide) ?_
        refine kpurei (wc := [(h, oX11 th aw ai ab ac hi re aP ta po en be de fa a5 sp av an ak ne aW aC ag aT aN aF), (aw, kcI cI 2179 fw)]) hP hD hS hA [0, 1] rfl (by decide) (fun hPc hDc hFc => va_runV (As := [.int mm, .int 0]) (rest := []) ⟨hx, hb, hml, hown, hts⟩ (r_ofMan0 l D cI cJ cB cC h th aw ai ab ac hi re aP ta po en be de fa a5 sp av an ak ne aW aC ag aT aN aF fw mm H.size H_mm H_fw_W) (cwV 2 hts gX11_factOf_X11_ofMan rfl rfl rfl ⟨rfl, hdX11_ofMan⟩ ⟨Nat.le_of_ble_eq_true rfl, Nat.le_of_ble_eq_true rfl⟩) ⟨kBlind, va_recv hK hPc (ci := 10) (q0 := 0) rfl rfl, fun U hU hW => ⟨rfl, by rw [hU], hN.warm hW, hE.pass hS hFc hW hU, by rw [hU]; exact hPc, va_K.moved hW.alike hK, hDc⟩⟩ rfl rfl hl.1 rfl (lv_room (Nat.le_of_ble_eq_true rfl)) dX11_factOf_66 ⟨Nat.le_of_ble_eq_true rfl, Nat.le_of_ble_eq_true rfl⟩) (fun r11 u H locs hw hP hS => ?_)
        obtain ⟨k12, k13⟩ := hw
        have hP9 := hP.sub (ws' := [(h, oX11 th aw ai ab ac hi re aP ta po en be de fa a5 sp av an ak ne aW aC ag aT aN aF), (aw, kcI cI 2179 fw)]) [0, 1] rfl
        have hD9 := hD.sub (ws' := [(h, oX11 th aw ai ab ac hi re aP ta po en be de fa a5 sp av an ak ne aW aC ag aT aN aF), (aw, kcI cI 2179 fw)]) [0, 1] (by decide) rfl
        exact W.iret (v := r11) hx hb hr (fun t ht hW => ⟨⟨r11, (), rfl, ⟨(by rw [ft_6 (rg_one k10)]; exact k12), (kif_t (ltI c1) (kif_f c3 (kif_f (fun q9 => absurd (c5.symm.trans q9) (by decide)) (kif_t c5 (kLet_eq (k13).symm rfl)))))⟩, by rw [ht]; exact hP9, va_K.moved hW.alike hK, hD9⟩, hS.F ht⟩) hS.2.2 dX11_factOf_69
      · skip
        refine lv_tableIn (tgt := 70) (off := 56) hx hb dX11_factOf_14 (by rw [c5]; decide) (by rw [c5]; decide) (by rw [c5]; rfl) (by decide) ?_
        have k14 : Rg st 7 7 := rg_toI c5
        refine lv_aload_n hx hb dX11_factOf_70 rfl (lv_at hl 0 rfl) ?_
        refine lv_iload_n hx hb dX11_factOf_71 rfl (lv_at hl 3 rfl) ?_
        refine lv_iconst (v := 2) hx hb dX11_factOf_72 (by decide) ?_
        refine kpurei (wc := [(h, oX11 th aw ai ab ac hi re aP ta po en be de fa a5 sp av an ak ne aW aC ag aT aN aF), (aw, kcI cI 2179 fw)]) hP hD hS hA [0, 1] rfl (by decide) (fun hPc hDc hFc => va_runV (As := [.int mm, .int 2]) (rest := []) ⟨hx, hb, hml, hown, hts⟩ (r_ofMan2 l D cI cJ cB cC h th aw ai ab ac hi re aP ta po en be de fa a5 sp av an ak ne aW aC ag aT aN aF fw mm H.size H_mm H_fw_W) (cwV 2 hts gX11_factOf_X11_ofMan rfl rfl rfl ⟨rfl, hdX11_ofMan⟩ ⟨Nat.le_of_ble_eq_true rfl, Nat.le_of_ble_eq_true rfl⟩) ⟨kBlind, va_recv hK hPc (ci := 10) (q0 := 0) rfl rfl, fun U hU hW => ⟨rfl, by rw [hU], hN.warm hW, hE.pass hS hFc hW hU, by rw [hU]; exact hPc, va_K.moved hW.alike hK, hDc⟩⟩ rfl rfl hl.1 rfl (lv_room (Nat.le_of_ble_eq_true rfl)) dX11_factOf_73 ⟨Nat.le_of_ble_eq_true rfl, Nat.le_of_ble_eq_true rfl⟩) (fun r15 u H locs hw hP hS => ?_)
        obtain ⟨k16, k17, k18⟩ := hw
        have hP9 := hP.sub (ws' := [(h, oX11 th aw ai ab ac hi re aP ta po en be de fa a5 sp av an ak ne aW aC ag aT aN aF), (aw, kcI cI 2179 fw)]) [0, 1] rfl
        have hD9 := hD.sub (ws' := [(h, oX11 th aw ai ab ac hi re aP ta po en be de fa a5 sp av an ak ne aW aC ag aT aN aF), (aw, kcI cI 2179 fw)]) [0, 1] (by decide) rfl
        exact W.iret (v := r15) hx hb hr (fun t ht hW => ⟨⟨r15, (), rfl, ⟨(by rw [ft_7 (rg_one k14)]; exact k16), (kif_t (ltI c1) (kif_f c3 (kif_f (fun q9 => absurd (c5.symm.trans q9) (by decide)) (kif_f (fun q9 => absurd (c5.symm.trans q9) (by decide)) (kif_t c5 (kLet_eq (k18).symm rfl))))))⟩, by rw [ht]; exact hP9, va_K.moved hW.alike hK, hD9⟩, hS.F ht⟩) hS.2.2 dX11_factOf_76
      · skip
        refine lv_tableIn (tgt := 77) (off := 63) hx hb dX11_factOf_14 (by rw [c5]; decide) (by rw [c5]; decide) (by rw [c5]; rfl) (by decide) ?_
        have k19 : Rg st 8 8 := rg_toI c5
        refine lv_aload_n hx hb dX11_factOf_77 rfl (lv_at hl 0 rfl) ?_
        refine va_get (D := D) (ci := 10) (v := .ref aw) (C := RX11) (T := TX11) (N := 26) hx hb hts iG_X11 hown hK hP 0 rfl rfl 1 (by decide) (hts _ w5_3) (fun _ h9 => h9) rfl dX11_factOf_78 ?_
        refine lv_iconst (v := 5) hx hb dX11_factOf_81 (by decide) ?_
        refine va_iald hx hb hK hP 1 0 rfl rfl (rg_in (rg_lit (n := 5) (by decide)) (by decide)) dX11_factOf_82 ?_
        refine lv_topi (fun x20 ex20 => ?_)
        have hP9 := hP.sub (ws' := [(h, oX11 th aw ai ab ac hi re aP ta po en be de fa a5 sp av an ak ne aW aC ag aT aN aF), (aw, kcI cI 2179 fw)]) [0, 1] rfl
        have hD9 := hD.sub (ws' := [(h, oX11 th aw ai ab ac hi re aP ta po en be de fa a5 sp av an ak ne aW aC ag aT aN aF), (aw, kcI cI 2179 fw)]) [0, 1] (by decide) rfl
        exact W.iret (v := x20) hx hb hr (fun t ht hW => ⟨⟨x20, (), rfl, ⟨(by rw [ft_8 (rg_one k19)]; exact ex20), (kif_t (ltI c1) (kif_f c3 (kif_f (fun q9 => absurd (c5.symm.trans q9) (by decide)) (kif_f (fun q9 => absurd (c5.symm.trans q9) (by decide)) (kif_f (fun q9 => absurd (c5.symm.trans q9) (by decide)) (kif_t c5 (kLet_eq (ke_ld ex20) rfl)))))))⟩, by rw [ht]; exact hP9, va_K.moved hW.alike hK, hD9⟩, hS.F ht⟩) hS.2.2 dX11_factOf_83
      · skip
        refine lv_tableIn (tgt := 84) (off := 70) hx hb dX11_factOf_14 (by rw [c5]; decide) (by rw [c5]; decide) (by rw [c5]; rfl) (by decide) ?_
        have k21 : Rg st 9 9 := rg_toI c5
        refine lv_aload_n hx hb dX11_factOf_84 rfl (lv_at hl 0 rfl) ?_
        refine lv_iload hx hb dX11_factOf_85 (lv_at hl 4 rfl) ?_
        refine lv_bipush (v := 6) hx hb dX11_factOf_87 (by decide) ?_
        refine kpurei (wc := [(h, oX11 th aw ai ab ac hi re aP ta po en be de fa a5 sp av an ak ne aW aC ag aT aN aF), (aw, kcI cI 2179 fw)]) hP hD hS hA [0, 1] rfl (by decide) (fun hPc hDc hFc => va_runV (As := [.int b, .int 6]) (rest := []) ⟨hx, hb, hml, hown, hts⟩ (r_of6 l D cI cJ cB cC h th aw ai ab ac hi re aP ta po en be de fa a5 sp av an ak ne aW aC ag aT aN aF fw b H.size H_b H_fw_W) (cwV 2 hts gX11_factOf_X11_of rfl rfl rfl ⟨rfl, hdX11_of⟩ ⟨Nat.le_of_ble_eq_true rfl, Nat.le_of_ble_eq_true rfl⟩) ⟨kBlind, va_recv hK hPc (ci := 10) (q0 := 0) rfl rfl, fun U hU hW => ⟨rfl, by rw [hU], hN.warm hW, hE.pass hS hFc hW hU, by rw [hU]; exact hPc, va_K.moved hW.alike hK, hDc⟩⟩ rfl rfl hl.1 rfl (lv_room (Nat.le_of_ble_eq_true rfl)) dX11_factOf_89 ⟨Nat.le_of_ble_eq_true rfl, Nat.le_of_ble_eq_true rfl⟩) (fun r22 u H locs hw hP hS => ?_)
        obtain ⟨k23, k24, k25⟩ := hw
        refine lv_iload_n hx hb dX11_factOf_92 rfl (lv_at hl 3 rfl) ?_
        refine lv_icmp_ne (tgt := 100) hx hb dX11_factOf_93 (by decide) (fun c28 => ?_) (fun c28 => ?_)
        · skip
          refine lv_iconst (v := 0) hx hb dX11_factOf_100 (by decide) ?_
          have hP9 := hP.sub (ws' := [(h, oX11 th aw ai ab ac hi re aP ta po en be de fa a5 sp av an ak ne aW aC ag aT aN aF), (aw, kcI cI 2179 fw)]) [0, 1] rfl
          have hD9 := hD.sub (ws' := [(h, oX11 th aw ai ab ac hi re aP ta po en be de fa a5 sp av an ak ne aW aC ag aT aN aF), (aw, kcI cI 2179 fw)]) [0, 1] (by decide) rfl
          exact W.iret (v := 0) hx hb hr (fun t ht hW => ⟨⟨0, (), rfl, ⟨(by rw [ft_9 (rg_one k21), ← k23, if_neg c28]), (kif_t (ltI c1) (kif_f c3 (kif_f (fun q9 => absurd (c5.symm.trans q9) (by decide)) (kif_f (fun q9 => absurd (c5.symm.trans q9) (by decide)) (kif_f (fun q9 => absurd (c5.symm.trans q9) (by decide)) (kif_f (fun q9 => absurd (c5.symm.trans q9) (by decide)) (kif_t c5 (kLet_eq (k25).symm (kif_f (neI c28) rfl)))))))))⟩, by rw [ht]; exact hP9, va_K.moved hW.alike hK, hD9⟩, hS.F ht⟩) hS.2.2 dX11_factOf_101
        · skip
          have k29 : Rg r22 0 9 := rg_q1 (eqI c28) k24 H_mm (by decide)
          refine lv_iconst (v := 1) hx hb dX11_factOf_96 (by decide) ?_
          refine lv_goto (tgt := 101) hx hb dX11_factOf_97 (by decide) ?_
          have hP9 := hP.sub (ws' := [(h, oX11 th aw ai ab ac hi re aP ta po en be de fa a5 sp av an ak ne aW aC ag aT aN aF), (aw, kcI cI 2179 fw)]) [0, 1] rfl
          have hD9 := hD.sub (ws' := [(h, oX11 th aw ai ab ac hi re aP ta po en be de fa a5 sp av an ak ne aW aC ag aT aN aF), (aw, kcI cI 2179 fw)]) [0, 1] (by decide) rfl
          exact W.iret (v := 1) hx hb hr (fun t ht hW => ⟨⟨1, (), rfl, ⟨(by rw [ft_9 (rg_one k21), ← k23, if_pos (Int32.toInt_inj.mp (eqI c28))]), (kif_t (ltI c1) (kif_f c3 (kif_f (fun q9 => absurd (c5.symm.trans q9) (by decide)) (kif_f (fun q9 => absurd (c5.symm.trans q9) (by decide)) (kif_f (fun q9 => absurd (c5.symm.trans q9) (by decide)) (kif_f (fun q9 => absurd (c5.symm.trans q9) (by decide)) (kif_t c5 (kLet_eq (k25).symm (kif_t (eqI c28) rfl)))))))))⟩, by rw [ht]; exact hP9, va_K.moved hW.alike hK, hD9⟩, hS.F ht⟩) hS.2.2 dX11_factOf_101
      · skip
        refine lv_tableIn (tgt := 102) (off := 88) hx hb dX11_factOf_14 (by rw [c5]; decide) (by rw [c5]; decide) (by rw [c5]; rfl) (by decide) ?_
        have k30 : Rg st 10 10 := rg_toI c5
        refine lv_aload_n hx hb dX11_factOf_102 rfl (lv_at hl 0 rfl) ?_
        refine lv_iload_n hx hb dX11_factOf_103 rfl (lv_at hl 3 rfl) ?_
        refine lv_iload hx hb dX11_factOf_104 (lv_at hl 4 rfl) ?_
        refine kpurei (wc := [(h, oX11 th aw ai ab ac hi re aP ta po en be de fa a5 sp av an ak ne aW aC ag aT aN aF), (aw, kcI cI 2179 fw)]) hP hD hS hA [0, 1] rfl (by decide) (fun hPc hDc hFc => va_runV (As := [.int mm, .int b]) (rest := []) ⟨hx, hb, hml, hown, hts⟩ (r_isNextToLastx l D cI cJ cB cC h th aw ai ab ac hi re aP ta po en be de fa a5 sp av an ak ne aW aC ag aT aN aF fw mm b H.size H_mm H_b H_fw_W) (cwV 2 hts gX11_factOf_X11_isNextToLast rfl rfl rfl ⟨rfl, hdX11_isNextToLast⟩ ⟨Nat.le_of_ble_eq_true rfl, Nat.le_of_ble_eq_true rfl⟩) ⟨kBlind, va_recv hK hPc (ci := 10) (q0 := 0) rfl rfl, fun U hU hW => ⟨rfl, by rw [hU], hN.warm hW, hE.pass hS hFc hW hU, by rw [hU]; exact hPc, va_K.moved hW.alike hK, hDc⟩⟩ rfl rfl hl.1 rfl (lv_room (Nat.le_of_ble_eq_true rfl)) dX11_factOf_106 ⟨Nat.le_of_ble_eq_true rfl, Nat.le_of_ble_eq_true rfl⟩) (fun r31 u H locs hw hP hS => ?_)
        obtain ⟨k32, k33, k34⟩ := hw
        refine lv_if_eq (tgt := 116) hx hb dX11_factOf_109 (by decide) (fun c38 => ?_) (fun c38 => ?_)
        · skip
          have k39 : Rg r31 0 0 := rg_q1 (eqI c38) k33 (rg_lit (n := 0) (by decide)) (by decide)
          refine lv_iconst (v := 0) hx hb dX11_factOf_116 (by decide) ?_
          have hP9 := hP.sub (ws' := [(h, oX11 th aw ai ab ac hi re aP ta po en be de fa a5 sp av an ak ne aW aC ag aT aN aF), (aw, kcI cI 2179 fw)]) [0, 1] rfl
          have hD9 := hD.sub (ws' := [(h, oX11 th aw ai ab ac hi re aP ta po en be de fa a5 sp av an ak ne aW aC ag aT aN aF), (aw, kcI cI 2179 fw)]) [0, 1] (by decide) rfl
          exact W.iret (v := 0) hx hb hr (fun t ht hW => ⟨⟨0, (), rfl, ⟨(by rw [ft_10 (rg_one k30), ← k32]; exact (Int32.toInt_inj.mp (by have q1 := k39; unfold Rg at q1; have q2 : (0 : Int32).toInt = 0 := (by decide); omega)).symm), (kif_t (ltI c1) (kif_f c3 (kif_f (fun q9 => absurd (c5.symm.trans q9) (by decide)) (kif_f (fun q9 => absurd (c5.symm.trans q9) (by decide)) (kif_f (fun q9 => absurd (c5.symm.trans q9) (by decide)) (kif_f (fun q9 => absurd (c5.symm.trans q9) (by decide)) (kif_f (fun q9 => absurd (c5.symm.trans q9) (by decide)) (kif_t c5 (kLet_eq (k34).symm (kif_t (eqI c38) rfl))))))))))⟩, by rw [ht]; exact hP9, va_K.moved hW.alike hK, hD9⟩, hS.F ht⟩) hS.2.2 dX11_factOf_117
        · skip
          have k40 : Rg r31 1 1 := rg_n1 (neI c38) k33 (rg_lit (n := 0) (by decide)) (by decide)
          refine lv_iconst (v := 1) hx hb dX11_factOf_112 (by decide) ?_
          refine lv_goto (tgt := 117) hx hb dX11_factOf_113 (by decide) ?_
          have hP9 := hP.sub (ws' := [(h, oX11 th aw ai ab ac hi re aP ta po en be de fa a5 sp av an ak ne aW aC ag aT aN aF), (aw, kcI cI 2179 fw)]) [0, 1] rfl
          have hD9 := hD.sub (ws' := [(h, oX11 th aw ai ab ac hi re aP ta po en be de fa a5 sp av an ak ne aW aC ag aT aN aF), (aw, kcI cI 2179 fw)]) [0, 1] (by decide) rfl
          exact W.iret (v := 1) hx hb hr (fun t ht hW => ⟨⟨1, (), rfl, ⟨(by rw [ft_10 (rg_one k30), ← k32]; exact (Int32.toInt_inj.mp (by have q1 := k40; unfold Rg at q1; have q2 : (1 : Int32).toInt = 1 := (by decide); omega)).symm), (kif_t (ltI c1) (kif_f c3 (kif_f (fun q9 => absurd (c5.symm.trans q9) (by decide)) (kif_f (fun q9 => absurd (c5.symm.trans q9) (by decide)) (kif_f (fun q9 => absurd (c5.symm.trans q9) (by decide)) (kif_f (fun q9 => absurd (c5.symm.trans q9) (by decide)) (kif_f (fun q9 => absurd (c5.symm.trans q9) (by decide)) (kif_t c5 (kLet_eq (k34).symm (kif_f (neI c38) rfl))))))))))⟩, by rw [ht]; exact hP9, va_K.moved hW.alike hK, hD9⟩, hS.F ht⟩) hS.2.2 dX11_factOf_117
      · skip
        refine lv_tableIn (tgt := 118) (off := 104) hx hb dX11_factOf_14 (by rw [c5]; decide) (by rw [c5]; decide) (by rw [c5]; rfl) (by decide) ?_
        have k41 : Rg st 11 11 := rg_toI c5
        refine lv_aload_n hx hb dX11_factOf_118 rfl (lv_at hl 0 rfl) ?_
        refine lv_iload hx hb dX11_factOf_119 (lv_at hl 4 rfl) ?_
        refine lv_iconst (v := 0) hx hb dX11_factOf_121 (by decide) ?_
        refine kpurei (wc := [(h, oX11 th aw ai ab ac hi re aP ta po en be de fa a5 sp av an ak ne aW aC ag aT aN aF), (aw, kcI cI 2179 fw)]) hP hD hS hA [0, 1] rfl (by decide) (fun hPc hDc hFc => va_runV (As := [.int b, .int 0]) (rest := []) ⟨hx, hb, hml, hown, hts⟩ (r_of0 l D cI cJ cB cC h th aw ai ab ac hi re aP ta po en be de fa a5 sp av an ak ne aW aC ag aT aN aF fw b H.size H_b H_fw_W) (cwV 2 hts gX11_factOf_X11_of rfl rfl rfl ⟨rfl, hdX11_of⟩ ⟨Nat.le_of_ble_eq_true rfl, Nat.le_of_ble_eq_true rfl⟩) ⟨kBlind, va_recv hK hPc (ci := 10) (q0 := 0) rfl rfl, fun U hU hW => ⟨rfl, by rw [hU], hN.warm hW, hE.pass hS hFc hW hU, by rw [hU]; exact hPc, va_K.moved hW.alike hK, hDc⟩⟩ rfl rfl hl.1 rfl (lv_room (Nat.le_of_ble_eq_true rfl)) dX11_factOf_122 ⟨Nat.le_of_ble_eq_true rfl, Nat.le_of_ble_eq_true rfl⟩) (fun r42 u H locs hw hP hS => ?_)
        obtain ⟨k43, k44⟩ := hw
        refine lv_aload_n hx hb dX11_factOf_125 rfl (lv_at hl 0 rfl) ?_
        refine lv_iload_n hx hb dX11_factOf_126 rfl (lv_at hl 3 rfl) ?_
        refine lv_iconst (v := 3) hx hb dX11_factOf_127 (by decide) ?_
        refine kpurei (wc := [(h, oX11 th aw ai ab ac hi re aP ta po en be de fa a5 sp av an ak ne aW aC ag aT aN aF), (aw, kcI cI 2179 fw)]) hP hD hS hA [0, 1] rfl (by decide) (fun hPc hDc hFc => va_runV (As := [.int mm, .int 3]) (rest := [.int r42]) ⟨hx, hb, hml, hown, hts⟩ (r_ofMan3 l D cI cJ cB cC h th aw ai ab ac hi re aP ta po en be de fa a5 sp av an ak ne aW aC ag aT aN aF fw mm H.size H_mm H_fw_W) (cwV 2 hts gX11_factOf_X11_ofMan rfl rfl rfl ⟨rfl, hdX11_ofMan⟩ ⟨Nat.le_of_ble_eq_true rfl, Nat.le_of_ble_eq_true rfl⟩) ⟨kBlind, va_recv hK hPc (ci := 10) (q0 := 0) rfl rfl, fun U hU hW => ⟨rfl, by rw [hU], hN.warm hW, hE.pass hS hFc hW hU, by rw [hU]; exact hPc, va_K.moved hW.alike hK, hDc⟩⟩ rfl rfl hl.1 rfl (lv_room (Nat.le_of_ble_eq_true rfl)) dX11_factOf_128 ⟨Nat.le_of_ble_eq_true rfl, Nat.le_of_ble_eq_true rfl⟩) (fun r45 u H locs hw hP hS => ?_)
        obtain ⟨k46, k47⟩ := hw
        refine lv_icmp_ne (tgt := 138) hx hb dX11_factOf_131 (by decide) (fun c49 => ?_) (fun c49 => ?_)
        · skip
          refine lv_iconst (v := 0) hx hb dX11_factOf_138 (by decide) ?_
          have hP9 := hP.sub (ws' := [(h, oX11 th aw ai ab ac hi re aP ta po en be de fa a5 sp av an ak ne aW aC ag aT aN aF), (aw, kcI cI 2179 fw)]) [0, 1] rfl
          have hD9 := hD.sub (ws' := [(h, oX11 th aw ai ab ac hi re aP ta po en be de fa a5 sp av an ak ne aW aC ag aT aN aF), (aw, kcI cI 2179 fw)]) [0, 1] (by decide) rfl
          exact W.iret (v := 0) hx hb hr (fun t ht hW => ⟨⟨0, (), rfl, ⟨(by rw [ft_11 (rg_one k41), ← k43, ← k46, if_neg c49]), (kif_t (ltI c1) (kif_f c3 (kif_f (fun q9 => absurd (c5.symm.trans q9) (by decide)) (kif_f (fun q9 => absurd (c5.symm.trans q9) (by decide)) (kif_f (fun q9 => absurd (c5.symm.trans q9) (by decide)) (kif_f (fun q9 => absurd (c5.symm.trans q9) (by decide)) (kif_f (fun q9 => absurd (c5.symm.trans q9) (by decide)) (kif_f (fun q9 => absurd (c5.symm.trans q9) (by decide)) (kLet_eq (k44).symm (kLet_eq (k47).symm (kif_f (neI c49) rfl)))))))))))⟩, by rw [ht]; exact hP9, va_K.moved hW.alike hK, hD9⟩, hS.F ht⟩) hS.2.2 dX11_factOf_139
        · skip
          refine lv_iconst (v := 1) hx hb dX11_factOf_134 (by decide) ?_
          refine lv_goto (tgt := 139) hx hb dX11_factOf_135 (by decide) ?_
          have hP9 := hP.sub (ws' := [(h, oX11 th aw ai ab ac hi re aP ta po en be de fa a5 sp av an ak ne aW aC ag aT aN aF), (aw, kcI cI 2179 fw)]) [0, 1] rfl
          have hD9 := hD.sub (ws' := [(h, oX11 th aw ai ab ac hi re aP ta po en be de fa a5 sp av an ak ne aW aC ag aT aN aF), (aw, kcI cI 2179 fw)]) [0, 1] (by decide) rfl
          exact W.iret (v := 1) hx hb hr (fun t ht hW => ⟨⟨1, (), rfl, ⟨(by rw [ft_11 (rg_one k41), ← k43, ← k46, if_pos (Int32.toInt_inj.mp (eqI c49))]), (kif_t (ltI c1) (kif_f c3 (kif_f (fun q9 => absurd (c5.symm.trans q9) (by decide)) (kif_f (fun q9 => absurd (c5.symm.trans q9) (by decide)) (kif_f (fun q9 => absurd (c5.symm.trans q9) (by decide)) (kif_f (fun q9 => absurd (c5.symm.trans q9) (by decide)) (kif_f (fun q9 => absurd (c5.symm.trans q9) (by decide)) (kif_f (fun q9 => absurd (c5.symm.trans q9) (by decide)) (kLet_eq (k44).symm (kLet_eq (k47).symm (kif_t (eqI c49) rfl)))))))))))⟩, by rw [ht]; exact hP9, va_K.moved hW.alike hK, hD9⟩, hS.F ht⟩) hS.2.2 dX11_factOf_139
  · skip
    have k50 : Rg st 0 4 := rg_e1 (nltI c1) H_st (rg_lit (n := 4) (by decide)) (by decide)
    refine lv_aload_n hx hb dX11_factOf_5 rfl (lv_at hl 0 rfl) ?_
    refine lv_iload hx hb dX11_factOf_6 (lv_at hl 4 rfl) ?_
    refine lv_iload_n hx hb dX11_factOf_8 rfl (lv_at hl 1 rfl) ?_
    refine kpurei (wc := [(h, oX11 th aw ai ab ac hi re aP ta po en be de fa a5 sp av an ak ne aW aC ag aT aN aF), (aw, kcI cI 2179 fw)]) hP hD hS hA [0, 1] rfl (by decide) (fun hPc hDc hFc => va_runV (As := [.int b, .int st]) (rest := []) ⟨hx, hb, hml, hown, hts⟩ (r_ofx l D cI cJ cB cC h th aw ai ab ac hi re aP ta po en be de fa a5 sp av an ak ne aW aC ag aT aN aF fw b st H.size H_b (rg_w k50 (by decide)) H_fw_W) (cwV 2 hts gX11_factOf_X11_of rfl rfl rfl ⟨rfl, hdX11_of⟩ ⟨Nat.le_of_ble_eq_true rfl, Nat.le_of_ble_eq_true rfl⟩) ⟨kBlind, va_recv hK hPc (ci := 10) (q0 := 0) rfl rfl, fun U hU hW => ⟨rfl, by rw [hU], hN.warm hW, hE.pass hS hFc hW hU, by rw [hU]; exact hPc, va_K.moved hW.alike hK, hDc⟩⟩ rfl rfl hl.1 rfl (lv_room (Nat.le_of_ble_eq_true rfl)) dX11_factOf_9 ⟨Nat.le_of_ble_eq_true rfl, Nat.le_of_ble_eq_true rfl⟩) (fun r51 u H locs hw hP hS => ?_)
    obtain ⟨k52, k53⟩ := hw
    have hP9 := hP.sub (ws' := [(h, oX11 th aw ai ab ac hi re aP ta po en be de fa a5 sp av an ak ne aW aC ag aT aN aF), (aw, kcI cI 2179 fw)]) [0, 1] rfl
    have hD9 := hD.sub (ws' := [(h, oX11 th aw ai ab ac hi re aP ta po en be de fa a5 sp av an ak ne aW aC ag aT aN aF), (aw, kcI cI 2179 fw)]) [0, 1] (by decide) rfl
    exact W.iret (v := r51) hx hb hr (fun t ht hW => ⟨⟨r51, (), rfl, ⟨(by rw [ft_4 (by have q1 := k50; unfold Rg at q1; omega)]; exact k52), (kif_f (xF_lt c1) (kLet_eq (k53).symm rfl))⟩, by rw [ht]; exact hP9, va_K.moved hW.alike hK, hD9⟩, hS.F ht⟩) hS.2.2 dX11_factOf_12

