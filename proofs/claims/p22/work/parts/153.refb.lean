set_option maxHeartbeats 4000000 in
set_option maxRecDepth 100000 in
/-- reference: of -/
theorem r_of (l : Launch) (D : va_G) (cI cJ cB cC : ClassId) (h : Nat) (th : Int32) (aw : Nat) (ai : Nat) (ab : Nat) (ac : Nat) (hi : Int32) (re : Int32) (aP : Nat) (ta : Int32) (po : Int32) (en : Int32) (be : Int32) (de : Int32) (fa : Int32) (a5 : Nat) (sp : Int32) (av : Nat) (an : Nat) (ak : Nat) (ne : Int32) (aW : Nat) (aC : Nat) (ag : Nat) (aT : Nat) (aN : Nat) (aF : Nat) (fw : Nat → Int32) (mm : Int32) (w : Int32) (sz : Nat) (H_mm : Rg mm 0 11) (H_w : Rg w 0 6) (H_fw_W : wW fw) : Met l yX11_of kwX11_of ({ frames := 0, cells := 0, slots := 0, locals := 0 } : Room) (kPre D (kT cI cJ cB cC) sz [(h, oX11 th aw ai ab ac hi re aP ta po en be de fa a5 sp av an ak ne aW aC ag aT aN aF), (aw, kcI cI 2179 fw)] [.ref h, .int mm, .int w]) (va_Qi (fun (r : Int32) (_ : Unit) => F_r_of (gT fw) (mm : Int32).toInt (w : Int32).toInt = ((r : Int32).toInt)) (fun (_ : Unit) (t : State) => kB D (kT cI cJ cB cC) (va_A [(h, oX11 th aw ai ab ac hi re aP ta po en be de fa a5 sp av an ak ne aW aC ag aT aN aF), (aw, kcI cI 2179 fw)] sz) [(h, oX11 th aw ai ab ac hi re aP ta po en be de fa a5 sp av an ak ne aW aC ag aT aN aF), (aw, kcI cI 2179 fw)] t) (va_A [(h, oX11 th aw ai ab ac hi re aP ta po en be de fa a5 sp av an ak ne aW aC ag aT aN aF), (aw, kcI cI 2179 fw)] sz)) 0 0 (va_A [(h, oX11 th aw ai ab ac hi re aP ta po en be de fa a5 sp av an ak ne aW aC ag aT aN aF), (aw, kcI cI 2179 fw)] sz) := by
  refine Met.ofW (cc := cX11_of) (maxL := 3) (ret := (some .int)) (by decide) rfl ?_
  intro p e s m args below meth c s₁ B hml hv
  obtain ⟨rfl, hsz, hN, hE, hP, hK, hD0⟩ := hv
  have hx := B.exec
  have hb := B.bytes
  have hr := B.returns
  have hts := fun (w : Cond) (h : w ∈ kG) => atoms_spec (ws := kwX11_of) B.pre w (List.mem_cons_of_mem _ h)
  have hown : s.vm.findClass RX11 = some m.cls := findClass_of_methodNamed B.named
  subst hsz
  have hD := hD0.self (sz := s.heap.size)
  generalize hAe : va_A [(h, oX11 th aw ai ab ac hi re aP ta po en be de fa a5 sp av an ak ne aW aC ag aT aN aF), (aw, kcI cI 2179 fw)] s.heap.size = A at hD hE ⊢
  have hA : ∀ q : Nat, s.heap.size ≤ q → A q := fun q h => by rw [← hAe]; exact Or.inr h
  have hl := lv_entry ([.ref h, .int mm, .int w]) (n := 3) (Nat.le_of_ble_eq_true rfl)
  rw [lg_entry_eq]
  generalize (lg_sl ([.ref h, .int mm, .int w]) ++ List.replicate (3 - (lg_sl ([.ref h, .int mm, .int w])).length) Slot.unset).toArray = ls at hl ⊢
  have hl : lv_has ls 3 [(0, .ref h), (1, .int mm), (2, .int w)] := hl
  obtain ⟨H, hH0⟩ : ∃ H, H = s.heap := ⟨_, rfl⟩
  have hS : va_S A s.heap H [] := by rw [hH0]; exact va_S.rf
  have hP : va_P D vwCl [(h, oX11 th aw ai ab ac hi re aP ta po en be de fa a5 sp av an ak ne aW aC ag aT aN aF), (aw, kcI cI 2179 fw)] H := by rw [hH0]; exact hP
  refine kHeap hH0 ?_
  clear hH0
  refine lv_aload_n hx hb dX11_of_0 rfl (lv_at hl 0 rfl) ?_
  refine va_get (D := D) (ci := 10) (v := .ref aw) (C := RX11) (T := TX11) (N := 26) hx hb hts iG_X11 hown hK hP 0 rfl rfl 1 (by decide) (hts _ w5_3) (fun _ h9 => h9) rfl dX11_of_1 ?_
  refine lv_bipush (v := 61) hx hb dX11_of_4 (by decide) ?_
  refine lv_bipush (v := 7) hx hb dX11_of_6 (by decide) ?_
  refine lv_iload_n hx hb dX11_of_8 rfl (lv_at hl 1 rfl) ?_
  refine lv_imul hx hb dX11_of_9 ?_
  refine lv_topi (fun x1 ex1 => ?_)
  have k2 : Rg x1 0 77 := rg_mul ex1 (rg_lit (n := 7) (by decide)) H_mm (by decide)
  refine lv_iadd hx hb dX11_of_10 ?_
  refine lv_topi (fun x3 ex3 => ?_)
  have k4 : Rg x3 61 138 := rg_add ex3 (rg_lit (n := 61) (by decide)) k2 (by decide)
  refine lv_iload_n hx hb dX11_of_11 rfl (lv_at hl 2 rfl) ?_
  refine lv_iadd hx hb dX11_of_12 ?_
  refine lv_topi (fun x5 ex5 => ?_)
  have k6 : Rg x5 61 144 := rg_add ex5 k4 H_w (by decide)
  refine va_iald hx hb hK hP 1 0 rfl rfl (rg_in k6 (by decide)) dX11_of_13 ?_
  refine lv_topi (fun x7 ex7 => ?_)
  have hP9 := hP.sub (ws' := [(h, oX11 th aw ai ab ac hi re aP ta po en be de fa a5 sp av an ak ne aW aC ag aT aN aF), (aw, kcI cI 2179 fw)]) [0, 1] rfl
  have hD9 := hD.sub (ws' := [(h, oX11 th aw ai ab ac hi re aP ta po en be de fa a5 sp av an ak ne aW aC ag aT aN aF), (aw, kcI cI 2179 fw)]) [0, 1] (by decide) rfl
  exact W.iret (v := x7) hx hb hr (fun t ht hW => ⟨⟨x7, (), rfl, (kLet_eq (ti_mul ex1 (rg_lit (n := 7) (by decide)) H_mm (by decide) rfl rfl) (kLet_eq (ti_add ex3 (rg_lit (n := 61) (by decide)) k2 (by decide) rfl rfl) (kLet_eq (ti_add ex5 k4 H_w (by decide) rfl rfl) (kLet_eq (ke_ld ex7) rfl)))), by rw [ht]; exact hP9, va_K.moved hW.alike hK, hD9⟩, hS.F ht⟩) hS.2.2 dX11_of_14

def kwX11_setsMan : List Cond := .code yX11_setsMan cX11_setsMan 4 none :: kG
theorem hdX11_setsMan : yX11_setsMan.cls ≠ "java/lang/invoke/MethodHandle" ∧ yX11_setsMan.cls ≠ "java/lang/invoke/VarHandle" ∧ (parseMethodDescriptor yX11_setsMan.desc).map (fun d => d.parameters.length) = some 3 := by decide +kernel
theorem dX11_setsMan_0 : decode cX11_setsMan 0 = .ok (.aload_n 0, 1) := by decide +kernel
theorem dX11_setsMan_1 : decode cX11_setsMan 1 = .ok (.getfield 13, 3) := by decide +kernel
theorem dX11_setsMan_4 : decode cX11_setsMan 4 = .ok (.bipush 11, 2) := by decide +kernel
theorem dX11_setsMan_6 : decode cX11_setsMan 6 = .ok (.iconst 5, 1) := by decide +kernel
theorem dX11_setsMan_7 : decode cX11_setsMan 7 = .ok (.iload_n 1, 1) := by decide +kernel
theorem dX11_setsMan_8 : decode cX11_setsMan 8 = .ok (.imul, 1) := by decide +kernel
theorem dX11_setsMan_9 : decode cX11_setsMan 9 = .ok (.iadd, 1) := by decide +kernel
theorem dX11_setsMan_10 : decode cX11_setsMan 10 = .ok (.iload_n 2, 1) := by decide +kernel
theorem dX11_setsMan_11 : decode cX11_setsMan 11 = .ok (.iadd, 1) := by decide +kernel
theorem dX11_setsMan_12 : decode cX11_setsMan 12 = .ok (.iload_n 3, 1) := by decide +kernel
theorem dX11_setsMan_13 : decode cX11_setsMan 13 = .ok (.iastore, 1) := by decide +kernel
theorem dX11_setsMan_14 : decode cX11_setsMan 14 = .ok (.return_, 1) := by decide +kernel
set_option maxHeartbeats 4000000 in
set_option maxRecDepth 100000 in
/-- reference: setsMan -/
theorem r_setsMan4 (l : Launch) (D : va_G) (cI cJ cB cC : ClassId) (h : Nat) (th : Int32) (aw : Nat) (ai : Nat) (ab : Nat) (ac : Nat) (hi : Int32) (re : Int32) (aP : Nat) (ta : Int32) (po : Int32) (en : Int32) (be : Int32) (de : Int32) (fa : Int32) (a5 : Nat) (sp : Int32) (av : Nat) (an : Nat) (ak : Nat) (ne : Int32) (aW : Nat) (aC : Nat) (ag : Nat) (aT : Nat) (aN : Nat) (aF : Nat) (fw : Nat → Int32) (mm : Int32) (v : Int32) (sz : Nat) (H_mm : Rg mm 0 9) (H_v : Rg v (-1) 11) (H_fw_W : wW fw) (H_fw_B : wB fw) (H_fw_L : wL fw) : Met l yX11_setsMan kwX11_setsMan ({ frames := 0, cells := 0, slots := 0, locals := 0 } : Room) (kPre D (kT cI cJ cB cC) sz [(h, oX11 th aw ai ab ac hi re aP ta po en be de fa a5 sp av an ak ne aW aC ag aT aN aF), (aw, kcI cI 2179 fw)] [.ref h, .int mm, .int 4, .int v]) (va_Qv (fun (f0_ : (Nat → Int32)) => wB f0_ ∧ wL f0_ ∧ wW f0_ ∧ F_r_setsMan4 (gT fw) (mm : Int32).toInt (v : Int32).toInt = ((gT f0_))) (fun (f0_ : (Nat → Int32)) (t : State) => kB D (kT cI cJ cB cC) (va_A [(h, oX11 th aw ai ab ac hi re aP ta po en be de fa a5 sp av an ak ne aW aC ag aT aN aF), (aw, kcI cI 2179 fw)] sz) [(h, oX11 th aw ai ab ac hi re aP ta po en be de fa a5 sp av an ak ne aW aC ag aT aN aF), (aw, kcI cI 2179 f0_)] t) (va_A [(h, oX11 th aw ai ab ac hi re aP ta po en be de fa a5 sp av an ak ne aW aC ag aT aN aF), (aw, kcI cI 2179 fw)] sz)) 0 0 (va_A [(h, oX11 th aw ai ab ac hi re aP ta po en be de fa a5 sp av an ak ne aW aC ag aT aN aF), (aw, kcI cI 2179 fw)] sz) := by
  refine Met.ofW (cc := cX11_setsMan) (maxL := 4) (ret := none) (by decide) rfl ?_
  intro p e s m args below meth c s₁ B hml hv
  obtain ⟨rfl, hsz, hN, hE, hP, hK, hD0⟩ := hv
  have hx := B.exec
  have hb := B.bytes
  have hr := B.returns
  have hts := fun (w : Cond) (h : w ∈ kG) => atoms_spec (ws := kwX11_setsMan) B.pre w (List.mem_cons_of_mem _ h)
  have hown : s.vm.findClass RX11 = some m.cls := findClass_of_methodNamed B.named
  subst hsz
  have hD := hD0.self (sz := s.heap.size)
  generalize hAe : va_A [(h, oX11 th aw ai ab ac hi re aP ta po en be de fa a5 sp av an ak ne aW aC ag aT aN aF), (aw, kcI cI 2179 fw)] s.heap.size = A at hD hE ⊢
  have hA : ∀ q : Nat, s.heap.size ≤ q → A q := fun q h => by rw [← hAe]; exact Or.inr h
  have hl := lv_entry ([.ref h, .int mm, .int 4, .int v]) (n := 4) (Nat.le_of_ble_eq_true rfl)
  rw [lg_entry_eq]
  generalize (lg_sl ([.ref h, .int mm, .int 4, .int v]) ++ List.replicate (4 - (lg_sl ([.ref h, .int mm, .int 4, .int v])).length) Slot.unset).toArray = ls at hl ⊢
  have hl : lv_has ls 4 [(0, .ref h), (1, .int mm), (2, .int 4), (3, .int v)] := hl
  obtain ⟨H, hH0⟩ : ∃ H, H = s.heap := ⟨_, rfl⟩
  have hS : va_S A s.heap H [] := by rw [hH0]; exact va_S.rf
  have hP : va_P D vwCl [(h, oX11 th aw ai ab ac hi re aP ta po en be de fa a5 sp av an ak ne aW aC ag aT aN aF), (aw, kcI cI 2179 fw)] H := by rw [hH0]; exact hP
  refine kHeap hH0 ?_
  clear hH0
  refine lv_aload_n hx hb dX11_setsMan_0 rfl (lv_at hl 0 rfl) ?_
  refine va_get (D := D) (ci := 10) (v := .ref aw) (C := RX11) (T := TX11) (N := 26) hx hb hts iG_X11 hown hK hP 0 rfl rfl 1 (by decide) (hts _ w5_3) (fun _ h9 => h9) rfl dX11_setsMan_1 ?_
  refine lv_bipush (v := 11) hx hb dX11_setsMan_4 (by decide) ?_
  refine lv_iconst (v := 5) hx hb dX11_setsMan_6 (by decide) ?_
  refine lv_iload_n hx hb dX11_setsMan_7 rfl (lv_at hl 1 rfl) ?_
  refine lv_imul hx hb dX11_setsMan_8 ?_
  refine lv_topi (fun x1 ex1 => ?_)
  have tx1 : x1.toInt = 5 * mm.toInt := ti_mul ex1 (rg_lit (n := 5) (by decide)) H_mm (by decide) (by decide) rfl
  have k2 : Rg x1 0 45 := rg_mul ex1 (rg_lit (n := 5) (by decide)) H_mm (by decide)
  refine lv_iadd hx hb dX11_setsMan_9 ?_
  refine lv_topi (fun x3 ex3 => ?_)
  have tx3 : x3.toInt = 11 + x1.toInt := ti_add ex3 (rg_lit (n := 11) (by decide)) k2 (by decide) (by decide) rfl
  have k4 : Rg x3 11 56 := rg_add ex3 (rg_lit (n := 11) (by decide)) k2 (by decide)
  refine lv_iload_n hx hb dX11_setsMan_10 rfl (lv_at hl 2 rfl) ?_
  refine lv_iadd hx hb dX11_setsMan_11 ?_
  refine lv_topi (fun x5 ex5 => ?_)
  have tx5 : x5.toInt = x3.toInt + 4 := ti_add ex5 k4 (rg_lit (n := 4) (by decide)) (by decide) rfl (by decide)
  have k6 : Rg x5 15 60 := rg_add ex5 k4 (rg_lit (n := 4) (by decide)) (by decide)
  refine lv_iload_n hx hb dX11_setsMan_12 rfl (lv_at hl 3 rfl) ?_
  refine va_iast hx hb hK hP hD hS 1 0 rfl rfl (rg_in k6 (by decide)) dX11_setsMan_13 (fun H locs hP hD hS => ?_)
  have hP : va_P D vwCl [(h, oX11 th aw ai ab ac hi re aP ta po en be de fa a5 sp av an ak ne aW aC ag aT aN aF), (aw, kcI cI 2179 (upd fw x5.toNatClampNeg v))] H := hP
  have hD : va_D A [(h, oX11 th aw ai ab ac hi re aP ta po en be de fa a5 sp av an ak ne aW aC ag aT aN aF), (aw, kcI cI 2179 (upd fw x5.toNatClampNeg v))] := hD
  have k8 : wW (upd fw x5.toNatClampNeg v) := wW_man 4 H_fw_W H_mm (by omega) (by omega) (by omega) (fun _ => H_v)
  have k9 : wB (upd fw x5.toNatClampNeg v) := wB_lo H_fw_B H_fw_W k6 (by decide)
  have k10 : wL (upd fw x5.toNatClampNeg v) := wL_out H_fw_L k6 (by decide)
  generalize hg7 : (upd fw x5.toNatClampNeg v) = g7 at hP hD k8 k9 k10
  have hP9 := hP.sub (ws' := [(h, oX11 th aw ai ab ac hi re aP ta po en be de fa a5 sp av an ak ne aW aC ag aT aN aF), (aw, kcI cI 2179 g7)]) [0, 1] rfl
  have hD9 := hD.sub (ws' := [(h, oX11 th aw ai ab ac hi re aP ta po en be de fa a5 sp av an ak ne aW aC ag aT aN aF), (aw, kcI cI 2179 g7)]) [0, 1] (by decide) rfl
  exact W.vret hx hb hr (fun t ht hW => ⟨⟨(g7), rfl, ⟨k9, k10, k8, (kLet_eq (ti_mul ex1 (rg_lit (n := 5) (by decide)) H_mm (by decide) rfl rfl) (kLet_eq (ti_add ex3 (rg_lit (n := 11) (by decide)) k2 (by decide) rfl rfl) (kLet_eq (ti_add ex5 k4 (rg_lit (n := 4) (by decide)) (by decide) rfl rfl) (kLet_eq (ke_st hg7) rfl))))⟩, by rw [ht]; exact hP9, va_K.moved hW.alike hK, hD9⟩, hS.F ht⟩) hS.2.2 dX11_setsMan_14

def kwX11_sets : List Cond := .code yX11_sets cX11_sets 4 none :: kG
theorem hdX11_sets : yX11_sets.cls ≠ "java/lang/invoke/MethodHandle" ∧ yX11_sets.cls ≠ "java/lang/invoke/VarHandle" ∧ (parseMethodDescriptor yX11_sets.desc).map (fun d => d.parameters.length) = some 3 := by decide +kernel
theorem dX11_sets_0 : decode cX11_sets 0 = .ok (.aload_n 0, 1) := by decide +kernel
theorem dX11_sets_1 : decode cX11_sets 1 = .ok (.getfield 13, 3) := by decide +kernel
theorem dX11_sets_4 : decode cX11_sets 4 = .ok (.bipush 61, 2) := by decide +kernel
theorem dX11_sets_6 : decode cX11_sets 6 = .ok (.bipush 7, 2) := by decide +kernel
theorem dX11_sets_8 : decode cX11_sets 8 = .ok (.iload_n 1, 1) := by decide +kernel
theorem dX11_sets_9 : decode cX11_sets 9 = .ok (.imul, 1) := by decide +kernel
theorem dX11_sets_10 : decode cX11_sets 10 = .ok (.iadd, 1) := by decide +kernel
theorem dX11_sets_11 : decode cX11_sets 11 = .ok (.iload_n 2, 1) := by decide +kernel
theorem dX11_sets_12 : decode cX11_sets 12 = .ok (.iadd, 1) := by decide +kernel
theorem dX11_sets_13 : decode cX11_sets 13 = .ok (.iload_n 3, 1) := by decide +kernel
theorem dX11_sets_14 : decode cX11_sets 14 = .ok (.iastore, 1) := by decide +kernel
theorem dX11_sets_15 : decode cX11_sets 15 = .ok (.return_, 1) := by decide +kernel
set_option maxHeartbeats 4000000 in
set_option maxRecDepth 100000 in
/-- reference: sets -/
theorem r_sets0 (l : Launch) (D : va_G) (cI cJ cB cC : ClassId) (h : Nat) (th : Int32) (aw : Nat) (ai : Nat) (ab : Nat) (ac : Nat) (hi : Int32) (re : Int32) (aP : Nat) (ta : Int32) (po : Int32) (en : Int32) (be : Int32) (de : Int32) (fa : Int32) (a5 : Nat) (sp : Int32) (av : Nat) (an : Nat) (ak : Nat) (ne : Int32) (aW : Nat) (aC : Nat) (ag : Nat) (aT : Nat) (aN : Nat) (aF : Nat) (fw : Nat → Int32) (mm : Int32) (v : Int32) (sz : Nat) (H_mm : Rg mm 0 11) (H_fw_W : wW fw) (H_fw_B : wB fw) (H_fw_L : wL fw) : Met l yX11_sets kwX11_sets ({ frames := 0, cells := 0, slots := 0, locals := 0 } : Room) (kPre D (kT cI cJ cB cC) sz [(h, oX11 th aw ai ab ac hi re aP ta po en be de fa a5 sp av an ak ne aW aC ag aT aN aF), (aw, kcI cI 2179 fw)] [.ref h, .int mm, .int 0, .int v]) (va_Qv (fun (f0_ : (Nat → Int32)) => wB f0_ ∧ wL f0_ ∧ wW f0_ ∧ F_r_sets0 (gT fw) (mm : Int32).toInt (v : Int32).toInt = ((gT f0_))) (fun (f0_ : (Nat → Int32)) (t : State) => kB D (kT cI cJ cB cC) (va_A [(h, oX11 th aw ai ab ac hi re aP ta po en be de fa a5 sp av an ak ne aW aC ag aT aN aF), (aw, kcI cI 2179 fw)] sz) [(h, oX11 th aw ai ab ac hi re aP ta po en be de fa a5 sp av an ak ne aW aC ag aT aN aF), (aw, kcI cI 2179 f0_)] t) (va_A [(h, oX11 th aw ai ab ac hi re aP ta po en be de fa a5 sp av an ak ne aW aC ag aT aN aF), (aw, kcI cI 2179 fw)] sz)) 0 0 (va_A [(h, oX11 th aw ai ab ac hi re aP ta po en be de fa a5 sp av an ak ne aW aC ag aT aN aF), (aw, kcI cI 2179 fw)] sz) := by
  refine Met.ofW (cc := cX11_sets) (maxL := 4) (ret := none) (by decide) rfl ?_
  intro p e s m args below meth c s₁ B hml hv
  obtain ⟨rfl, hsz, hN, hE, hP, hK, hD0⟩ := hv
  have hx := B.exec
  have hb := B.bytes
  have hr := B.returns
  have hts := fun (w : Cond) (h : w ∈ kG) => atoms_spec (ws := kwX11_sets) B.pre w (List.mem_cons_of_mem _ h)
  have hown : s.vm.findClass RX11 = some m.cls := findClass_of_methodNamed B.named
  subst hsz
  have hD := hD0.self (sz := s.heap.size)
  generalize hAe : va_A [(h, oX11 th aw ai ab ac hi re aP ta po en be de fa a5 sp av an ak ne aW aC ag aT aN aF), (aw, kcI cI 2179 fw)] s.heap.size = A at hD hE ⊢
  have hA : ∀ q : Nat, s.heap.size ≤ q → A q := fun q h => by rw [← hAe]; exact Or.inr h
  have hl := lv_entry ([.ref h, .int mm, .int 0, .int v]) (n := 4) (Nat.le_of_ble_eq_true rfl)
  rw [lg_entry_eq]
  generalize (lg_sl ([.ref h, .int mm, .int 0, .int v]) ++ List.replicate (4 - (lg_sl ([.ref h, .int mm, .int 0, .int v])).length) Slot.unset).toArray = ls at hl ⊢
  have hl : lv_has ls 4 [(0, .ref h), (1, .int mm), (2, .int 0), (3, .int v)] := hl
  obtain ⟨H, hH0⟩ : ∃ H, H = s.heap := ⟨_, rfl⟩
  have hS : va_S A s.heap H [] := by rw [hH0]; exact va_S.rf
  have hP : va_P D vwCl [(h, oX11 th aw ai ab ac hi re aP ta po en be de fa a5 sp av an ak ne aW aC ag aT aN aF), (aw, kcI cI 2179 fw)] H := by rw [hH0]; exact hP
  refine kHeap hH0 ?_
  clear hH0
  refine lv_aload_n hx hb dX11_sets_0 rfl (lv_at hl 0 rfl) ?_
  refine va_get (D := D) (ci := 10) (v := .ref aw) (C := RX11) (T := TX11) (N := 26) hx hb hts iG_X11 hown hK hP 0 rfl rfl 1 (by decide) (hts _ w5_3) (fun _ h9 => h9) rfl dX11_sets_1 ?_
  refine lv_bipush (v := 61) hx hb dX11_sets_4 (by decide) ?_
  refine lv_bipush (v := 7) hx hb dX11_sets_6 (by decide) ?_
  refine lv_iload_n hx hb dX11_sets_8 rfl (lv_at hl 1 rfl) ?_
  refine lv_imul hx hb dX11_sets_9 ?_
  refine lv_topi (fun x1 ex1 => ?_)
  have tx1 : x1.toInt = 7 * mm.toInt := ti_mul ex1 (rg_lit (n := 7) (by decide)) H_mm (by decide) (by decide) rfl
  have k2 : Rg x1 0 77 := rg_mul ex1 (rg_lit (n := 7) (by decide)) H_mm (by decide)
  refine lv_iadd hx hb dX11_sets_10 ?_
  refine lv_topi (fun x3 ex3 => ?_)
  have tx3 : x3.toInt = 61 + x1.toInt := ti_add ex3 (rg_lit (n := 61) (by decide)) k2 (by decide) (by decide) rfl
  have k4 : Rg x3 61 138 := rg_add ex3 (rg_lit (n := 61) (by decide)) k2 (by decide)
  refine lv_iload_n hx hb dX11_sets_11 rfl (lv_at hl 2 rfl) ?_
  refine lv_iadd hx hb dX11_sets_12 ?_
  refine lv_topi (fun x5 ex5 => ?_)
  have tx5 : x5.toInt = x3.toInt + 0 := ti_add ex5 k4 (rg_lit (n := 0) (by decide)) (by decide) rfl (by decide)
  have k6 : Rg x5 61 138 := rg_add ex5 k4 (rg_lit (n := 0) (by decide)) (by decide)
  refine lv_iload_n hx hb dX11_sets_13 rfl (lv_at hl 3 rfl) ?_
  refine va_iast hx hb hK hP hD hS 1 0 rfl rfl (rg_in k6 (by decide)) dX11_sets_14 (fun H locs hP hD hS => ?_)
  have hP : va_P D vwCl [(h, oX11 th aw ai ab ac hi re aP ta po en be de fa a5 sp av an ak ne aW aC ag aT aN aF), (aw, kcI cI 2179 (upd fw x5.toNatClampNeg v))] H := hP
  have hD : va_D A [(h, oX11 th aw ai ab ac hi re aP ta po en be de fa a5 sp av an ak ne aW aC ag aT aN aF), (aw, kcI cI 2179 (upd fw x5.toNatClampNeg v))] := hD
  have k8 : wW (upd fw x5.toNatClampNeg v) := wW_shirt 0 H_fw_W H_mm (by omega) (by omega) (by omega)
  have k9 : wB (upd fw x5.toNatClampNeg v) := wB_shirt 0 H_fw_B H_fw_W H_mm (by omega) (by omega) (by omega)
  have k10 : wL (upd fw x5.toNatClampNeg v) := wL_out H_fw_L k6 (by decide)
  generalize hg7 : (upd fw x5.toNatClampNeg v) = g7 at hP hD k8 k9 k10
  have hP9 := hP.sub (ws' := [(h, oX11 th aw ai ab ac hi re aP ta po en be de fa a5 sp av an ak ne aW aC ag aT aN aF), (aw, kcI cI 2179 g7)]) [0, 1] rfl
  have hD9 := hD.sub (ws' := [(h, oX11 th aw ai ab ac hi re aP ta po en be de fa a5 sp av an ak ne aW aC ag aT aN aF), (aw, kcI cI 2179 g7)]) [0, 1] (by decide) rfl
  exact W.vret hx hb hr (fun t ht hW => ⟨⟨(g7), rfl, ⟨k9, k10, k8, (kLet_eq (ti_mul ex1 (rg_lit (n := 7) (by decide)) H_mm (by decide) rfl rfl) (kLet_eq (ti_add ex3 (rg_lit (n := 61) (by decide)) k2 (by decide) rfl rfl) (kLet_eq (ti_add ex5 k4 (rg_lit (n := 0) (by decide)) (by decide) rfl rfl) (kLet_eq (ke_st hg7) rfl))))⟩, by rw [ht]; exact hP9, va_K.moved hW.alike hK, hD9⟩, hS.F ht⟩) hS.2.2 dX11_sets_15

set_option maxHeartbeats 4000000 in
set_option maxRecDepth 100000 in
/-- reference: sets -/
theorem r_sets1 (l : Launch) (D : va_G) (cI cJ cB cC : ClassId) (h : Nat) (th : Int32) (aw : Nat) (ai : Nat) (ab : Nat) (ac : Nat) (hi : Int32) (re : Int32) (aP : Nat) (ta : Int32) (po : Int32) (en : Int32) (be : Int32) (de : Int32) (fa : Int32) (a5 : Nat) (sp : Int32) (av : Nat) (an : Nat) (ak : Nat) (ne : Int32) (aW : Nat) (aC : Nat) (ag : Nat) (aT : Nat) (aN : Nat) (aF : Nat) (fw : Nat → Int32) (mm : Int32) (v : Int32) (sz : Nat) (H_mm : Rg mm 0 11) (H_fw_W : wW fw) (H_fw_B : wB fw) (H_fw_L : wL fw) : Met l yX11_sets kwX11_sets ({ frames := 0, cells := 0, slots := 0, locals := 0 } : Room) (kPre D (kT cI cJ cB cC) sz [(h, oX11 th aw ai ab ac hi re aP ta po en be de fa a5 sp av an ak ne aW aC ag aT aN aF), (aw, kcI cI 2179 fw)] [.ref h, .int mm, .int 1, .int v]) (va_Qv (fun (f0_ : (Nat → Int32)) => wB f0_ ∧ wL f0_ ∧ wW f0_ ∧ F_r_sets1 (gT fw) (mm : Int32).toInt (v : Int32).toInt = ((gT f0_))) (fun (f0_ : (Nat → Int32)) (t : State) => kB D (kT cI cJ cB cC) (va_A [(h, oX11 th aw ai ab ac hi re aP ta po en be de fa a5 sp av an ak ne aW aC ag aT aN aF), (aw, kcI cI 2179 fw)] sz) [(h, oX11 th aw ai ab ac hi re aP ta po en be de fa a5 sp av an ak ne aW aC ag aT aN aF), (aw, kcI cI 2179 f0_)] t) (va_A [(h, oX11 th aw ai ab ac hi re aP ta po en be de fa a5 sp av an ak ne aW aC ag aT aN aF), (aw, kcI cI 2179 fw)] sz)) 0 0 (va_A [(h, oX11 th aw ai ab ac hi re aP ta po en be de fa a5 sp av an ak ne aW aC ag aT aN aF), (aw, kcI cI 2179 fw)] sz) := by
  refine Met.ofW (cc := cX11_sets) (maxL := 4) (ret := none) (by decide) rfl ?_
  intro p e s m args below meth c s₁ B hml hv
  obtain ⟨rfl, hsz, hN, hE, hP, hK, hD0⟩ := hv
  have hx := B.exec
  have hb := B.bytes
  have hr := B.returns
  have hts := fun (w : Cond) (h : w ∈ kG) => atoms_spec (ws := kwX11_sets) B.pre w (List.mem_cons_of_mem _ h)
  have hown : s.vm.findClass RX11 = some m.cls := findClass_of_methodNamed B.named
  subst hsz
  have hD := hD0.self (sz := s.heap.size)
  generalize hAe : va_A [(h, oX11 th aw ai ab ac hi re aP ta po en be de fa a5 sp av an ak ne aW aC ag aT aN aF), (aw, kcI cI 2179 fw)] s.heap.size = A at hD hE ⊢
  have hA : ∀ q : Nat, s.heap.size ≤ q → A q := fun q h => by rw [← hAe]; exact Or.inr h
  have hl := lv_entry ([.ref h, .int mm, .int 1, .int v]) (n := 4) (Nat.le_of_ble_eq_true rfl)
  rw [lg_entry_eq]
  generalize (lg_sl ([.ref h, .int mm, .int 1, .int v]) ++ List.replicate (4 - (lg_sl ([.ref h, .int mm, .int 1, .int v])).length) Slot.unset).toArray = ls at hl ⊢
  have hl : lv_has ls 4 [(0, .ref h), (1, .int mm), (2, .int 1), (3, .int v)] := hl
  obtain ⟨H, hH0⟩ : ∃ H, H = s.heap := ⟨_, rfl⟩
  have hS : va_S A s.heap H [] := by rw [hH0]; exact va_S.rf
  have hP : va_P D vwCl [(h, oX11 th aw ai ab ac hi re aP ta po en be de fa a5 sp av an ak ne aW aC ag aT aN aF), (aw, kcI cI 2179 fw)] H := by rw [hH0]; exact hP
  refine kHeap hH0 ?_
  clear hH0
  refine lv_aload_n hx hb dX11_sets_0 rfl (lv_at hl 0 rfl) ?_
  refine va_get (D := D) (ci := 10) (v := .ref aw) (C := RX11) (T := TX11) (N := 26) hx hb hts iG_X11 hown hK hP 0 rfl rfl 1 (by decide) (hts _ w5_3) (fun _ h9 => h9) rfl dX11_sets_1 ?_
  refine lv_bipush (v := 61) hx hb dX11_sets_4 (by decide) ?_
  refine lv_bipush (v := 7) hx hb dX11_sets_6 (by decide) ?_
  refine lv_iload_n hx hb dX11_sets_8 rfl (lv_at hl 1 rfl) ?_
  refine lv_imul hx hb dX11_sets_9 ?_
  refine lv_topi (fun x1 ex1 => ?_)
  have tx1 : x1.toInt = 7 * mm.toInt := ti_mul ex1 (rg_lit (n := 7) (by decide)) H_mm (by decide) (by decide) rfl
  have k2 : Rg x1 0 77 := rg_mul ex1 (rg_lit (n := 7) (by decide)) H_mm (by decide)
  refine lv_iadd hx hb dX11_sets_10 ?_
  refine lv_topi (fun x3 ex3 => ?_)
  have tx3 : x3.toInt = 61 + x1.toInt := ti_add ex3 (rg_lit (n := 61) (by decide)) k2 (by decide) (by decide) rfl
  have k4 : Rg x3 61 138 := rg_add ex3 (rg_lit (n := 61) (by decide)) k2 (by decide)
  refine lv_iload_n hx hb dX11_sets_11 rfl (lv_at hl 2 rfl) ?_
  refine lv_iadd hx hb dX11_sets_12 ?_
  refine lv_topi (fun x5 ex5 => ?_)
  have tx5 : x5.toInt = x3.toInt + 1 := ti_add ex5 k4 (rg_lit (n := 1) (by decide)) (by decide) rfl (by decide)
  have k6 : Rg x5 62 139 := rg_add ex5 k4 (rg_lit (n := 1) (by decide)) (by decide)
  refine lv_iload_n hx hb dX11_sets_13 rfl (lv_at hl 3 rfl) ?_
  refine va_iast hx hb hK hP hD hS 1 0 rfl rfl (rg_in k6 (by decide)) dX11_sets_14 (fun H locs hP hD hS => ?_)
  have hP : va_P D vwCl [(h, oX11 th aw ai ab ac hi re aP ta po en be de fa a5 sp av an ak ne aW aC ag aT aN aF), (aw, kcI cI 2179 (upd fw x5.toNatClampNeg v))] H := hP
  have hD : va_D A [(h, oX11 th aw ai ab ac hi re aP ta po en be de fa a5 sp av an ak ne aW aC ag aT aN aF), (aw, kcI cI 2179 (upd fw x5.toNatClampNeg v))] := hD
  have k8 : wW (upd fw x5.toNatClampNeg v) := wW_shirt 1 H_fw_W H_mm (by omega) (by omega) (by omega)
  have k9 : wB (upd fw x5.toNatClampNeg v) := wB_shirt 1 H_fw_B H_fw_W H_mm (by omega) (by omega) (by omega)
  have k10 : wL (upd fw x5.toNatClampNeg v) := wL_out H_fw_L k6 (by decide)
  generalize hg7 : (upd fw x5.toNatClampNeg v) = g7 at hP hD k8 k9 k10
  have hP9 := hP.sub (ws' := [(h, oX11 th aw ai ab ac hi re aP ta po en be de fa a5 sp av an ak ne aW aC ag aT aN aF), (aw, kcI cI 2179 g7)]) [0, 1] rfl
  have hD9 := hD.sub (ws' := [(h, oX11 th aw ai ab ac hi re aP ta po en be de fa a5 sp av an ak ne aW aC ag aT aN aF), (aw, kcI cI 2179 g7)]) [0, 1] (by decide) rfl
  exact W.vret hx hb hr (fun t ht hW => ⟨⟨(g7), rfl, ⟨k9, k10, k8, (kLet_eq (ti_mul ex1 (rg_lit (n := 7) (by decide)) H_mm (by decide) rfl rfl) (kLet_eq (ti_add ex3 (rg_lit (n := 61) (by decide)) k2 (by decide) rfl rfl) (kLet_eq (ti_add ex5 k4 (rg_lit (n := 1) (by decide)) (by decide) rfl rfl) (kLet_eq (ke_st hg7) rfl))))⟩, by rw [ht]; exact hP9, va_K.moved hW.alike hK, hD9⟩, hS.F ht⟩) hS.2.2 dX11_sets_15

set_option maxHeartbeats 4000000 in
set_option maxRecDepth 100000 in
/-- reference: sets -/
theorem r_sets2 (l : Launch) (D : va_G) (cI cJ cB cC : ClassId) (h : Nat) (th : Int32) (aw : Nat) (ai : Nat) (ab : Nat) (ac : Nat) (hi : Int32) (re : Int32) (aP : Nat) (ta : Int32) (po : Int32) (en : Int32) (be : Int32) (de : Int32) (fa : Int32) (a5 : Nat) (sp : Int32) (av : Nat) (an : Nat) (ak : Nat) (ne : Int32) (aW : Nat) (aC : Nat) (ag : Nat) (aT : Nat) (aN : Nat) (aF : Nat) (fw : Nat → Int32) (mm : Int32) (v : Int32) (sz : Nat) (H_mm : Rg mm 0 11) (H_fw_W : wW fw) (H_fw_B : wB fw) (H_fw_L : wL fw) : Met l yX11_sets kwX11_sets ({ frames := 0, cells := 0, slots := 0, locals := 0 } : Room) (kPre D (kT cI cJ cB cC) sz [(h, oX11 th aw ai ab ac hi re aP ta po en be de fa a5 sp av an ak ne aW aC ag aT aN aF), (aw, kcI cI 2179 fw)] [.ref h, .int mm, .int 2, .int v]) (va_Qv (fun (f0_ : (Nat → Int32)) => wB f0_ ∧ wL f0_ ∧ wW f0_ ∧ F_r_sets2 (gT fw) (mm : Int32).toInt (v : Int32).toInt = ((gT f0_))) (fun (f0_ : (Nat → Int32)) (t : State) => kB D (kT cI cJ cB cC) (va_A [(h, oX11 th aw ai ab ac hi re aP ta po en be de fa a5 sp av an ak ne aW aC ag aT aN aF), (aw, kcI cI 2179 fw)] sz) [(h, oX11 th aw ai ab ac hi re aP ta po en be de fa a5 sp av an ak ne aW aC ag aT aN aF), (aw, kcI cI 2179 f0_)] t) (va_A [(h, oX11 th aw ai ab ac hi re aP ta po en be de fa a5 sp av an ak ne aW aC ag aT aN aF), (aw, kcI cI 2179 fw)] sz)) 0 0 (va_A [(h, oX11 th aw ai ab ac hi re aP ta po en be de fa a5 sp av an ak ne aW aC ag aT aN aF), (aw, kcI cI 2179 fw)] sz) := by
  refine Met.ofW (cc := cX11_sets) (maxL := 4) (ret := none) (by decide) rfl ?_
  intro p e s m args below meth c s₁ B hml hv
  obtain ⟨rfl, hsz, hN, hE, hP, hK, hD0⟩ := hv
  have hx := B.exec
  have hb := B.bytes
  have hr := B.returns
  have hts := fun (w : Cond) (h : w ∈ kG) => atoms_spec (ws := kwX11_sets) B.pre w (List.mem_cons_of_mem _ h)
  have hown : s.vm.findClass RX11 = some m.cls := findClass_of_methodNamed B.named
  subst hsz
  have hD := hD0.self (sz := s.heap.size)
  generalize hAe : va_A [(h, oX11 th aw ai ab ac hi re aP ta po en be de fa a5 sp av an ak ne aW aC ag aT aN aF), (aw, kcI cI 2179 fw)] s.heap.size = A at hD hE ⊢
  have hA : ∀ q : Nat, s.heap.size ≤ q → A q := fun q h => by rw [← hAe]; exact Or.inr h
  have hl := lv_entry ([.ref h, .int mm, .int 2, .int v]) (n := 4) (Nat.le_of_ble_eq_true rfl)
  rw [lg_entry_eq]
  generalize (lg_sl ([.ref h, .int mm, .int 2, .int v]) ++ List.replicate (4 - (lg_sl ([.ref h, .int mm, .int 2, .int v])).length) Slot.unset).toArray = ls at hl ⊢
  have hl : lv_has ls 4 [(0, .ref h), (1, .int mm), (2, .int 2), (3, .int v)] := hl
  obtain ⟨H, hH0⟩ : ∃ H, H = s.heap := ⟨_, rfl⟩
  have hS : va_S A s.heap H [] := by rw [hH0]; exact va_S.rf
  have hP : va_P D vwCl [(h, oX11 th aw ai ab ac hi re aP ta po en be de fa a5 sp av an ak ne aW aC ag aT aN aF), (aw, kcI cI 2179 fw)] H := by rw [hH0]; exact hP
  refine kHeap hH0 ?_
  clear hH0
  refine lv_aload_n hx hb dX11_sets_0 rfl (lv_at hl 0 rfl) ?_
  refine va_get (D := D) (ci := 10) (v := .ref aw) (C := RX11) (T := TX11) (N := 26) hx hb hts iG_X11 hown hK hP 0 rfl rfl 1 (by decide) (hts _ w5_3) (fun _ h9 => h9) rfl dX11_sets_1 ?_
  refine lv_bipush (v := 61) hx hb dX11_sets_4 (by decide) ?_
  refine lv_bipush (v := 7) hx hb dX11_sets_6 (by decide) ?_
  refine lv_iload_n hx hb dX11_sets_8 rfl (lv_at hl 1 rfl) ?_
  refine lv_imul hx hb dX11_sets_9 ?_
  refine lv_topi (fun x1 ex1 => ?_)
  have tx1 : x1.toInt = 7 * mm.toInt := ti_mul ex1 (rg_lit (n := 7) (by decide)) H_mm (by decide) (by decide) rfl
  have k2 : Rg x1 0 77 := rg_mul ex1 (rg_lit (n := 7) (by decide)) H_mm (by decide)
  refine lv_iadd hx hb dX11_sets_10 ?_
  refine lv_topi (fun x3 ex3 => ?_)
  have tx3 : x3.toInt = 61 + x1.toInt := ti_add ex3 (rg_lit (n := 61) (by decide)) k2 (by decide) (by decide) rfl
  have k4 : Rg x3 61 138 := rg_add ex3 (rg_lit (n := 61) (by decide)) k2 (by decide)
  refine lv_iload_n hx hb dX11_sets_11 rfl (lv_at hl 2 rfl) ?_
  refine lv_iadd hx hb dX11_sets_12 ?_
  refine lv_topi (fun x5 ex5 => ?_)
  have tx5 : x5.toInt = x3.toInt + 2 := ti_add ex5 k4 (rg_lit (n := 2) (by decide)) (by decide) rfl (by decide)
  have k6 : Rg x5 63 140 := rg_add ex5 k4 (rg_lit (n := 2) (by decide)) (by decide)
  refine lv_iload_n hx hb dX11_sets_13 rfl (lv_at hl 3 rfl) ?_
  refine va_iast hx hb hK hP hD hS 1 0 rfl rfl (rg_in k6 (by decide)) dX11_sets_14 (fun H locs hP hD hS => ?_)
  have hP : va_P D vwCl [(h, oX11 th aw ai ab ac hi re aP ta po en be de fa a5 sp av an ak ne aW aC ag aT aN aF), (aw, kcI cI 2179 (upd fw x5.toNatClampNeg v))] H := hP
  have hD : va_D A [(h, oX11 th aw ai ab ac hi re aP ta po en be de fa a5 sp av an ak ne aW aC ag aT aN aF), (aw, kcI cI 2179 (upd fw x5.toNatClampNeg v))] := hD
  have k8 : wW (upd fw x5.toNatClampNeg v) := wW_shirt 2 H_fw_W H_mm (by omega) (by omega) (by omega)
  have k9 : wB (upd fw x5.toNatClampNeg v) := wB_shirt 2 H_fw_B H_fw_W H_mm (by omega) (by omega) (by omega)
  have k10 : wL (upd fw x5.toNatClampNeg v) := wL_out H_fw_L k6 (by decide)
  generalize hg7 : (upd fw x5.toNatClampNeg v) = g7 at hP hD k8 k9 k10
  have hP9 := hP.sub (ws' := [(h, oX11 th aw ai ab ac hi re aP ta po en be de fa a5 sp av an ak ne aW aC ag aT aN aF), (aw, kcI cI 2179 g7)]) [0, 1] rfl
  have hD9 := hD.sub (ws' := [(h, oX11 th aw ai ab ac hi re aP ta po en be de fa a5 sp av an ak ne aW aC ag aT aN aF), (aw, kcI cI 2179 g7)]) [0, 1] (by decide) rfl
  exact W.vret hx hb hr (fun t ht hW => ⟨⟨(g7), rfl, ⟨k9, k10, k8, (kLet_eq (ti_mul ex1 (rg_lit (n := 7) (by decide)) H_mm (by decide) rfl rfl) (kLet_eq (ti_add ex3 (rg_lit (n := 61) (by decide)) k2 (by decide) rfl rfl) (kLet_eq (ti_add ex5 k4 (rg_lit (n := 2) (by decide)) (by decide) rfl rfl) (kLet_eq (ke_st hg7) rfl))))⟩, by rw [ht]; exact hP9, va_K.moved hW.alike hK, hD9⟩, hS.F ht⟩) hS.2.2 dX11_sets_15

set_option maxHeartbeats 4000000 in
set_option maxRecDepth 100000 in
/-- reference: sets -/
theorem r_sets3 (l : Launch) (D : va_G) (cI cJ cB cC : ClassId) (h : Nat) (th : Int32) (aw : Nat) (ai : Nat) (ab : Nat) (ac : Nat) (hi : Int32) (re : Int32) (aP : Nat) (ta : Int32) (po : Int32) (en : Int32) (be : Int32) (de : Int32) (fa : Int32) (a5 : Nat) (sp : Int32) (av : Nat) (an : Nat) (ak : Nat) (ne : Int32) (aW : Nat) (aC : Nat) (ag : Nat) (aT : Nat) (aN : Nat) (aF : Nat) (fw : Nat → Int32) (mm : Int32) (v : Int32) (sz : Nat) (H_mm : Rg mm 0 11) (H_fw_W : wW fw) (H_fw_B : wB fw) (H_fw_L : wL fw) : Met l yX11_sets kwX11_sets ({ frames := 0, cells := 0, slots := 0, locals := 0 } : Room) (kPre D (kT cI cJ cB cC) sz [(h, oX11 th aw ai ab ac hi re aP ta po en be de fa a5 sp av an ak ne aW aC ag aT aN aF), (aw, kcI cI 2179 fw)] [.ref h, .int mm, .int 3, .int v]) (va_Qv (fun (f0_ : (Nat → Int32)) => wB f0_ ∧ wL f0_ ∧ wW f0_ ∧ F_r_sets3 (gT fw) (mm : Int32).toInt (v : Int32).toInt = ((gT f0_))) (fun (f0_ : (Nat → Int32)) (t : State) => kB D (kT cI cJ cB cC) (va_A [(h, oX11 th aw ai ab ac hi re aP ta po en be de fa a5 sp av an ak ne aW aC ag aT aN aF), (aw, kcI cI 2179 fw)] sz) [(h, oX11 th aw ai ab ac hi re aP ta po en be de fa a5 sp av an ak ne aW aC ag aT aN aF), (aw, kcI cI 2179 f0_)] t) (va_A [(h, oX11 th aw ai ab ac hi re aP ta po en be de fa a5 sp av an ak ne aW aC ag aT aN aF), (aw, kcI cI 2179 fw)] sz)) 0 0 (va_A [(h, oX11 th aw ai ab ac hi re aP ta po en be de fa a5 sp av an ak ne aW aC ag aT aN aF), (aw, kcI cI 2179 fw)] sz) := by
  refine Met.ofW (cc := cX11_sets) (maxL := 4) (ret := none) (by decide) rfl ?_
  intro p e s m args below meth c s₁ B hml hv
  obtain ⟨rfl, hsz, hN, hE, hP, hK, hD0⟩ := hv
  have hx := B.exec
  have hb := B.bytes
  have hr := B.returns
  have hts := fun (w : Cond) (h : w ∈ kG) => atoms_spec (ws := kwX11_sets) B.pre w (List.mem_cons_of_mem _ h)
  have hown : s.vm.findClass RX11 = some m.cls := findClass_of_methodNamed B.named
  subst hsz
  have hD := hD0.self (sz := s.heap.size)
  generalize hAe : va_A [(h, oX11 th aw ai ab ac hi re aP ta po en be de fa a5 sp av an ak ne aW aC ag aT aN aF), (aw, kcI cI 2179 fw)] s.heap.size = A at hD hE ⊢
  have hA : ∀ q : Nat, s.heap.size ≤ q → A q := fun q h => by rw [← hAe]; exact Or.inr h
  have hl := lv_entry ([.ref h, .int mm, .int 3, .int v]) (n := 4) (Nat.le_of_ble_eq_true rfl)
  rw [lg_entry_eq]
  generalize (lg_sl ([.ref h, .int mm, .int 3, .int v]) ++ List.replicate (4 - (lg_sl ([.ref h, .int mm, .int 3, .int v])).length) Slot.unset).toArray = ls at hl ⊢
  have hl : lv_has ls 4 [(0, .ref h), (1, .int mm), (2, .int 3), (3, .int v)] := hl
  obtain ⟨H, hH0⟩ : ∃ H, H = s.heap := ⟨_, rfl⟩
  have hS : va_S A s.heap H [] := by rw [hH0]; exact va_S.rf
  have hP : va_P D vwCl [(h, oX11 th aw ai ab ac hi re aP ta po en be de fa a5 sp av an ak ne aW aC ag aT aN aF), (aw, kcI cI 2179 fw)] H := by rw [hH0]; exact hP
  refine kHeap hH0 ?_
  clear hH0
  refine lv_aload_n hx hb dX11_sets_0 rfl (lv_at hl 0 rfl) ?_
  refine va_get (D := D) (ci := 10) (v := .ref aw) (C := RX11) (T := TX11) (N := 26) hx hb hts iG_X11 hown hK hP 0 rfl rfl 1 (by decide) (hts _ w5_3) (fun _ h9 => h9) rfl dX11_sets_1 ?_
  refine lv_bipush (v := 61) hx hb dX11_sets_4 (by decide) ?_
  refine lv_bipush (v := 7) hx hb dX11_sets_6 (by decide) ?_
  refine lv_iload_n hx hb dX11_sets_8 rfl (lv_at hl 1 rfl) ?_
  refine lv_imul hx hb dX11_sets_9 ?_
  refine lv_topi (fun x1 ex1 => ?_)
  have tx1 : x1.toInt = 7 * mm.toInt := ti_mul ex1 (rg_lit (n := 7) (by decide)) H_mm (by decide) (by decide) rfl
  have k2 : Rg x1 0 77 := rg_mul ex1 (rg_lit (n := 7) (by decide)) H_mm (by decide)
  refine lv_iadd hx hb dX11_sets_10 ?_
  refine lv_topi (fun x3 ex3 => ?_)
  have tx3 : x3.toInt = 61 + x1.toInt := ti_add ex3 (rg_lit (n := 61) (by decide)) k2 (by decide) (by decide) rfl
  have k4 : Rg x3 61 138 := rg_add ex3 (rg_lit (n := 61) (by decide)) k2 (by decide)
  refine lv_iload_n hx hb dX11_sets_11 rfl (lv_at hl 2 rfl) ?_
  refine lv_iadd hx hb dX11_sets_12 ?_
  refine lv_topi (fun x5 ex5 => ?_)
  have tx5 : x5.toInt = x3.toInt + 3 := ti_add ex5 k4 (rg_lit (n := 3) (by decide)) (by decide) rfl (by decide)
  have k6 : Rg x5 64 141 := rg_add ex5 k4 (rg_lit (n := 3) (by decide)) (by decide)
  refine lv_iload_n hx hb dX11_sets_13 rfl (lv_at hl 3 rfl) ?_
  refine va_iast hx hb hK hP hD hS 1 0 rfl rfl (rg_in k6 (by decide)) dX11_sets_14 (fun H locs hP hD hS => ?_)
  have hP : va_P D vwCl [(h, oX11 th aw ai ab ac hi re aP ta po en be de fa a5 sp av an ak ne aW aC ag aT aN aF), (aw, kcI cI 2179 (upd fw x5.toNatClampNeg v))] H := hP
  have hD : va_D A [(h, oX11 th aw ai ab ac hi re aP ta po en be de fa a5 sp av an ak ne aW aC ag aT aN aF), (aw, kcI cI 2179 (upd fw x5.toNatClampNeg v))] := hD
  have k8 : wW (upd fw x5.toNatClampNeg v) := wW_shirt 3 H_fw_W H_mm (by omega) (by omega) (by omega)
  have k9 : wB (upd fw x5.toNatClampNeg v) := wB_shirt 3 H_fw_B H_fw_W H_mm (by omega) (by omega) (by omega)
  have k10 : wL (upd fw x5.toNatClampNeg v) := wL_out H_fw_L k6 (by decide)
  generalize hg7 : (upd fw x5.toNatClampNeg v) = g7 at hP hD k8 k9 k10
  have hP9 := hP.sub (ws' := [(h, oX11 th aw ai ab ac hi re aP ta po en be de fa a5 sp av an ak ne aW aC ag aT aN aF), (aw, kcI cI 2179 g7)]) [0, 1] rfl
  have hD9 := hD.sub (ws' := [(h, oX11 th aw ai ab ac hi re aP ta po en be de fa a5 sp av an ak ne aW aC ag aT aN aF), (aw, kcI cI 2179 g7)]) [0, 1] (by decide) rfl
  exact W.vret hx hb hr (fun t ht hW => ⟨⟨(g7), rfl, ⟨k9, k10, k8, (kLet_eq (ti_mul ex1 (rg_lit (n := 7) (by decide)) H_mm (by decide) rfl rfl) (kLet_eq (ti_add ex3 (rg_lit (n := 61) (by decide)) k2 (by decide) rfl rfl) (kLet_eq (ti_add ex5 k4 (rg_lit (n := 3) (by decide)) (by decide) rfl rfl) (kLet_eq (ke_st hg7) rfl))))⟩, by rw [ht]; exact hP9, va_K.moved hW.alike hK, hD9⟩, hS.F ht⟩) hS.2.2 dX11_sets_15

set_option maxHeartbeats 4000000 in
set_option maxRecDepth 100000 in
/-- reference: sets -/
theorem r_sets5 (l : Launch) (D : va_G) (cI cJ cB cC : ClassId) (h : Nat) (th : Int32) (aw : Nat) (ai : Nat) (ab : Nat) (ac : Nat) (hi : Int32) (re : Int32) (aP : Nat) (ta : Int32) (po : Int32) (en : Int32) (be : Int32) (de : Int32) (fa : Int32) (a5 : Nat) (sp : Int32) (av : Nat) (an : Nat) (ak : Nat) (ne : Int32) (aW : Nat) (aC : Nat) (ag : Nat) (aT : Nat) (aN : Nat) (aF : Nat) (fw : Nat → Int32) (mm : Int32) (v : Int32) (sz : Nat) (H_mm : Rg mm 0 11) (H_v : Rg v (-1) 9) (H_fw_W : wW fw) (H_fw_B : wB fw) (H_fw_L : wL fw) : Met l yX11_sets kwX11_sets ({ frames := 0, cells := 0, slots := 0, locals := 0 } : Room) (kPre D (kT cI cJ cB cC) sz [(h, oX11 th aw ai ab ac hi re aP ta po en be de fa a5 sp av an ak ne aW aC ag aT aN aF), (aw, kcI cI 2179 fw)] [.ref h, .int mm, .int 5, .int v]) (va_Qv (fun (f0_ : (Nat → Int32)) => wB f0_ ∧ wL f0_ ∧ wW f0_ ∧ F_r_sets5 (gT fw) (mm : Int32).toInt (v : Int32).toInt = ((gT f0_))) (fun (f0_ : (Nat → Int32)) (t : State) => kB D (kT cI cJ cB cC) (va_A [(h, oX11 th aw ai ab ac hi re aP ta po en be de fa a5 sp av an ak ne aW aC ag aT aN aF), (aw, kcI cI 2179 fw)] sz) [(h, oX11 th aw ai ab ac hi re aP ta po en be de fa a5 sp av an ak ne aW aC ag aT aN aF), (aw, kcI cI 2179 f0_)] t) (va_A [(h, oX11 th aw ai ab ac hi re aP ta po en be de fa a5 sp av an ak ne aW aC ag aT aN aF), (aw, kcI cI 2179 fw)] sz)) 0 0 (va_A [(h, oX11 th aw ai ab ac hi re aP ta po en be de fa a5 sp av an ak ne aW aC ag aT aN aF), (aw, kcI cI 2179 fw)] sz) := by
  refine Met.ofW (cc := cX11_sets) (maxL := 4) (ret := none) (by decide) rfl ?_
  intro p e s m args below meth c s₁ B hml hv
  obtain ⟨rfl, hsz, hN, hE, hP, hK, hD0⟩ := hv
  have hx := B.exec
  have hb := B.bytes
  have hr := B.returns
  have hts := fun (w : Cond) (h : w ∈ kG) => atoms_spec (ws := kwX11_sets) B.pre w (List.mem_cons_of_mem _ h)
  have hown : s.vm.findClass RX11 = some m.cls := findClass_of_methodNamed B.named
  subst hsz
  have hD := hD0.self (sz := s.heap.size)
  generalize hAe : va_A [(h, oX11 th aw ai ab ac hi re aP ta po en be de fa a5 sp av an ak ne aW aC ag aT aN aF), (aw, kcI cI 2179 fw)] s.heap.size = A at hD hE ⊢
  have hA : ∀ q : Nat, s.heap.size ≤ q → A q := fun q h => by rw [← hAe]; exact Or.inr h
  have hl := lv_entry ([.ref h, .int mm, .int 5, .int v]) (n := 4) (Nat.le_of_ble_eq_true rfl)
  rw [lg_entry_eq]
  generalize (lg_sl ([.ref h, .int mm, .int 5, .int v]) ++ List.replicate (4 - (lg_sl ([.ref h, .int mm, .int 5, .int v])).length) Slot.unset).toArray = ls at hl ⊢
  have hl : lv_has ls 4 [(0, .ref h), (1, .int mm), (2, .int 5), (3, .int v)] := hl
  obtain ⟨H, hH0⟩ : ∃ H, H = s.heap := ⟨_, rfl⟩
  have hS : va_S A s.heap H [] := by rw [hH0]; exact va_S.rf
  have hP : va_P D vwCl [(h, oX11 th aw ai ab ac hi re aP ta po en be de fa a5 sp av an ak ne aW aC ag aT aN aF), (aw, kcI cI 2179 fw)] H := by rw [hH0]; exact hP
  refine kHeap hH0 ?_
  clear hH0
  refine lv_aload_n hx hb dX11_sets_0 rfl (lv_at hl 0 rfl) ?_
  refine va_get (D := D) (ci := 10) (v := .ref aw) (C := RX11) (T := TX11) (N := 26) hx hb hts iG_X11 hown hK hP 0 rfl rfl 1 (by decide) (hts _ w5_3) (fun _ h9 => h9) rfl dX11_sets_1 ?_
  refine lv_bipush (v := 61) hx hb dX11_sets_4 (by decide) ?_
  refine lv_bipush (v := 7) hx hb dX11_sets_6 (by decide) ?_
  refine lv_iload_n hx hb dX11_sets_8 rfl (lv_at hl 1 rfl) ?_
  refine lv_imul hx hb dX11_sets_9 ?_
  refine lv_topi (fun x1 ex1 => ?_)
  have tx1 : x1.toInt = 7 * mm.toInt := ti_mul ex1 (rg_lit (n := 7) (by decide)) H_mm (by decide) (by decide) rfl
  have k2 : Rg x1 0 77 := rg_mul ex1 (rg_lit (n := 7) (by decide)) H_mm (by decide)
  refine lv_iadd hx hb dX11_sets_10 ?_
  refine lv_topi (fun x3 ex3 => ?_)
  have tx3 : x3.toInt = 61 + x1.toInt := ti_add ex3 (rg_lit (n := 61) (by decide)) k2 (by decide) (by decide) rfl
  have k4 : Rg x3 61 138 := rg_add ex3 (rg_lit (n := 61) (by decide)) k2 (by decide)
  refine lv_iload_n hx hb dX11_sets_11 rfl (lv_at hl 2 rfl) ?_
  refine lv_iadd hx hb dX11_sets_12 ?_
  refine lv_topi (fun x5 ex5 => ?_)
  have tx5 : x5.toInt = x3.toInt + 5 := ti_add ex5 k4 (rg_lit (n := 5) (by decide)) (by decide) rfl (by decide)
  have k6 : Rg x5 66 143 := rg_add ex5 k4 (rg_lit (n := 5) (by decide)) (by decide)
  refine lv_iload_n hx hb dX11_sets_13 rfl (lv_at hl 3 rfl) ?_
  refine va_iast hx hb hK hP hD hS 1 0 rfl rfl (rg_in k6 (by decide)) dX11_sets_14 (fun H locs hP hD hS => ?_)
  have hP : va_P D vwCl [(h, oX11 th aw ai ab ac hi re aP ta po en be de fa a5 sp av an ak ne aW aC ag aT aN aF), (aw, kcI cI 2179 (upd fw x5.toNatClampNeg v))] H := hP
  have hD : va_D A [(h, oX11 th aw ai ab ac hi re aP ta po en be de fa a5 sp av an ak ne aW aC ag aT aN aF), (aw, kcI cI 2179 (upd fw x5.toNatClampNeg v))] := hD
  have k8 : wW (upd fw x5.toNatClampNeg v) := wW_shirt 5 H_fw_W H_mm (by omega) (by omega) (fun _ => H_v)
  have k9 : wB (upd fw x5.toNatClampNeg v) := wB_shirt 5 H_fw_B H_fw_W H_mm (by omega) (by omega) (by omega)
  have k10 : wL (upd fw x5.toNatClampNeg v) := wL_out H_fw_L k6 (by decide)
  generalize hg7 : (upd fw x5.toNatClampNeg v) = g7 at hP hD k8 k9 k10
  have hP9 := hP.sub (ws' := [(h, oX11 th aw ai ab ac hi re aP ta po en be de fa a5 sp av an ak ne aW aC ag aT aN aF), (aw, kcI cI 2179 g7)]) [0, 1] rfl
  have hD9 := hD.sub (ws' := [(h, oX11 th aw ai ab ac hi re aP ta po en be de fa a5 sp av an ak ne aW aC ag aT aN aF), (aw, kcI cI 2179 g7)]) [0, 1] (by decide) rfl
  exact W.vret hx hb hr (fun t ht hW => ⟨⟨(g7), rfl, ⟨k9, k10, k8, (kLet_eq (ti_mul ex1 (rg_lit (n := 7) (by decide)) H_mm (by decide) rfl rfl) (kLet_eq (ti_add ex3 (rg_lit (n := 61) (by decide)) k2 (by decide) rfl rfl) (kLet_eq (ti_add ex5 k4 (rg_lit (n := 5) (by decide)) (by decide) rfl rfl) (kLet_eq (ke_st hg7) rfl))))⟩, by rw [ht]; exact hP9, va_K.moved hW.alike hK, hD9⟩, hS.F ht⟩) hS.2.2 dX11_sets_15

set_option maxHeartbeats 4000000 in
set_option maxRecDepth 100000 in
/-- reference: sets -/
theorem r_sets6 (l : Launch) (D : va_G) (cI cJ cB cC : ClassId) (h : Nat) (th : Int32) (aw : Nat) (ai : Nat) (ab : Nat) (ac : Nat) (hi : Int32) (re : Int32) (aP : Nat) (ta : Int32) (po : Int32) (en : Int32) (be : Int32) (de : Int32) (fa : Int32) (a5 : Nat) (sp : Int32) (av : Nat) (an : Nat) (ak : Nat) (ne : Int32) (aW : Nat) (aC : Nat) (ag : Nat) (aT : Nat) (aN : Nat) (aF : Nat) (fw : Nat → Int32) (mm : Int32) (v : Int32) (sz : Nat) (H_mm : Rg mm 0 11) (H_v : Rg v (-1) 9) (H_fw_W : wW fw) (H_fw_B : wB fw) (H_fw_L : wL fw) : Met l yX11_sets kwX11_sets ({ frames := 0, cells := 0, slots := 0, locals := 0 } : Room) (kPre D (kT cI cJ cB cC) sz [(h, oX11 th aw ai ab ac hi re aP ta po en be de fa a5 sp av an ak ne aW aC ag aT aN aF), (aw, kcI cI 2179 fw)] [.ref h, .int mm, .int 6, .int v]) (va_Qv (fun (f0_ : (Nat → Int32)) => wB f0_ ∧ wL f0_ ∧ wW f0_ ∧ F_r_sets6 (gT fw) (mm : Int32).toInt (v : Int32).toInt = ((gT f0_))) (fun (f0_ : (Nat → Int32)) (t : State) => kB D (kT cI cJ cB cC) (va_A [(h, oX11 th aw ai ab ac hi re aP ta po en be de fa a5 sp av an ak ne aW aC ag aT aN aF), (aw, kcI cI 2179 fw)] sz) [(h, oX11 th aw ai ab ac hi re aP ta po en be de fa a5 sp av an ak ne aW aC ag aT aN aF), (aw, kcI cI 2179 f0_)] t) (va_A [(h, oX11 th aw ai ab ac hi re aP ta po en be de fa a5 sp av an ak ne aW aC ag aT aN aF), (aw, kcI cI 2179 fw)] sz)) 0 0 (va_A [(h, oX11 th aw ai ab ac hi re aP ta po en be de fa a5 sp av an ak ne aW aC ag aT aN aF), (aw, kcI cI 2179 fw)] sz) := by
  refine Met.ofW (cc := cX11_sets) (maxL := 4) (ret := none) (by decide) rfl ?_
  intro p e s m args below meth c s₁ B hml hv
  obtain ⟨rfl, hsz, hN, hE, hP, hK, hD0⟩ := hv
  have hx := B.exec
  have hb := B.bytes
  have hr := B.returns
  have hts := fun (w : Cond) (h : w ∈ kG) => atoms_spec (ws := kwX11_sets) B.pre w (List.mem_cons_of_mem _ h)
  have hown : s.vm.findClass RX11 = some m.cls := findClass_of_methodNamed B.named
  subst hsz
  have hD := hD0.self (sz := s.heap.size)
  generalize hAe : va_A [(h, oX11 th aw ai ab ac hi re aP ta po en be de fa a5 sp av an ak ne aW aC ag aT aN aF), (aw, kcI cI 2179 fw)] s.heap.size = A at hD hE ⊢
  have hA : ∀ q : Nat, s.heap.size ≤ q → A q := fun q h => by rw [← hAe]; exact Or.inr h
  have hl := lv_entry ([.ref h, .int mm, .int 6, .int v]) (n := 4) (Nat.le_of_ble_eq_true rfl)
  rw [lg_entry_eq]
  generalize (lg_sl ([.ref h, .int mm, .int 6, .int v]) ++ List.replicate (4 - (lg_sl ([.ref h, .int mm, .int 6, .int v])).length) Slot.unset).toArray = ls at hl ⊢
  have hl : lv_has ls 4 [(0, .ref h), (1, .int mm), (2, .int 6), (3, .int v)] := hl
  obtain ⟨H, hH0⟩ : ∃ H, H = s.heap := ⟨_, rfl⟩
  have hS : va_S A s.heap H [] := by rw [hH0]; exact va_S.rf
  have hP : va_P D vwCl [(h, oX11 th aw ai ab ac hi re aP ta po en be de fa a5 sp av an ak ne aW aC ag aT aN aF), (aw, kcI cI 2179 fw)] H := by rw [hH0]; exact hP
  refine kHeap hH0 ?_
  clear hH0
  refine lv_aload_n hx hb dX11_sets_0 rfl (lv_at hl 0 rfl) ?_
  refine va_get (D := D) (ci := 10) (v := .ref aw) (C := RX11) (T := TX11) (N := 26) hx hb hts iG_X11 hown hK hP 0 rfl rfl 1 (by decide) (hts _ w5_3) (fun _ h9 => h9) rfl dX11_sets_1 ?_
  refine lv_bipush (v := 61) hx hb dX11_sets_4 (by decide) ?_
  refine lv_bipush (v := 7) hx hb dX11_sets_6 (by decide) ?_
  refine lv_iload_n hx hb dX11_sets_8 rfl (lv_at hl 1 rfl) ?_
  refine lv_imul hx hb dX11_sets_9 ?_
  refine lv_topi (fun x1 ex1 => ?_)
  have tx1 : x1.toInt = 7 * mm.toInt := ti_mul ex1 (rg_lit (n := 7) (by decide)) H_mm (by decide) (by decide) rfl
  have k2 : Rg x1 0 77 := rg_mul ex1 (rg_lit (n := 7) (by decide)) H_mm (by decide)
  refine lv_iadd hx hb dX11_sets_10 ?_
  refine lv_topi (fun x3 ex3 => ?_)
  have tx3 : x3.toInt = 61 + x1.toInt := ti_add ex3 (rg_lit (n := 61) (by decide)) k2 (by decide) (by decide) rfl
  have k4 : Rg x3 61 138 := rg_add ex3 (rg_lit (n := 61) (by decide)) k2 (by decide)
  refine lv_iload_n hx hb dX11_sets_11 rfl (lv_at hl 2 rfl) ?_
  refine lv_iadd hx hb dX11_sets_12 ?_
  refine lv_topi (fun x5 ex5 => ?_)
  have tx5 : x5.toInt = x3.toInt + 6 := ti_add ex5 k4 (rg_lit (n := 6) (by decide)) (by decide) rfl (by decide)
  have k6 : Rg x5 67 144 := rg_add ex5 k4 (rg_lit (n := 6) (by decide)) (by decide)
  refine lv_iload_n hx hb dX11_sets_13 rfl (lv_at hl 3 rfl) ?_
  refine va_iast hx hb hK hP hD hS 1 0 rfl rfl (rg_in k6 (by decide)) dX11_sets_14 (fun H locs hP hD hS => ?_)
  have hP : va_P D vwCl [(h, oX11 th aw ai ab ac hi re aP ta po en be de fa a5 sp av an ak ne aW aC ag aT aN aF), (aw, kcI cI 2179 (upd fw x5.toNatClampNeg v))] H := hP
  have hD : va_D A [(h, oX11 th aw ai ab ac hi re aP ta po en be de fa a5 sp av an ak ne aW aC ag aT aN aF), (aw, kcI cI 2179 (upd fw x5.toNatClampNeg v))] := hD
  have k8 : wW (upd fw x5.toNatClampNeg v) := wW_shirt 6 H_fw_W H_mm (by omega) (by omega) (fun _ => H_v)
  have k9 : wB (upd fw x5.toNatClampNeg v) := wB_shirt 6 H_fw_B H_fw_W H_mm (by omega) (by omega) (by omega)
  have k10 : wL (upd fw x5.toNatClampNeg v) := wL_out H_fw_L k6 (by decide)
  generalize hg7 : (upd fw x5.toNatClampNeg v) = g7 at hP hD k8 k9 k10
  have hP9 := hP.sub (ws' := [(h, oX11 th aw ai ab ac hi re aP ta po en be de fa a5 sp av an ak ne aW aC ag aT aN aF), (aw, kcI cI 2179 g7)]) [0, 1] rfl
  have hD9 := hD.sub (ws' := [(h, oX11 th aw ai ab ac hi re aP ta po en be de fa a5 sp av an ak ne aW aC ag aT aN aF), (aw, kcI cI 2179 g7)]) [0, 1] (by decide) rfl
  exact W.vret hx hb hr (fun t ht hW => ⟨⟨(g7), rfl, ⟨k9, k10, k8, (kLet_eq (ti_mul ex1 (rg_lit (n := 7) (by decide)) H_mm (by decide) rfl rfl) (kLet_eq (ti_add ex3 (rg_lit (n := 61) (by decide)) k2 (by decide) rfl rfl) (kLet_eq (ti_add ex5 k4 (rg_lit (n := 6) (by decide)) (by decide) rfl rfl) (kLet_eq (ke_st hg7) rfl))))⟩, by rw [ht]; exact hP9, va_K.moved hW.alike hK, hD9⟩, hS.F ht⟩) hS.2.2 dX11_sets_15

def kwX11_noMan : List Cond := .code yX11_noMan cX11_noMan 2 (some .boolean) :: kG
theorem hdX11_noMan : yX11_noMan.cls ≠ "java/lang/invoke/MethodHandle" ∧ yX11_noMan.cls ≠ "java/lang/invoke/VarHandle" ∧ (parseMethodDescriptor yX11_noMan.desc).map (fun d => d.parameters.length) = some 1 := by decide +kernel
theorem gX11_noMan_X11_in : GoodIn kG (va_wsS RX11 75 yX11_in kwX11_in) := gK w27_8 (gK w27_9 (gK w0_5 (gK w27_10 gGG)))
theorem gX11_noMan_X11_men : GoodIn kG (wsV RX11 71 RX11 yX11_men kwX11_men) := gK w19_17 (gK w19_18 (gK w19_19 (gK w0_5 (gK w19_20 gGG))))
theorem dX11_noMan_0 : decode cX11_noMan 0 = .ok (.iload_n 1, 1) := by decide +kernel
theorem dX11_noMan_1 : decode cX11_noMan 1 = .ok (.iconst 0, 1) := by decide +kernel
theorem dX11_noMan_2 : decode cX11_noMan 2 = .ok (.aload_n 0, 1) := by decide +kernel
theorem dX11_noMan_3 : decode cX11_noMan 3 = .ok (.invokevirtual 71, 3) := by decide +kernel
theorem dX11_noMan_6 : decode cX11_noMan 6 = .ok (.iconst 1, 1) := by decide +kernel
theorem dX11_noMan_7 : decode cX11_noMan 7 = .ok (.isub, 1) := by decide +kernel
theorem dX11_noMan_8 : decode cX11_noMan 8 = .ok (.invokestatic 75, 3) := by decide +kernel
theorem dX11_noMan_11 : decode cX11_noMan 11 = .ok (.ifCond .ne 7, 3) := by decide +kernel
theorem dX11_noMan_14 : decode cX11_noMan 14 = .ok (.iconst 1, 1) := by decide +kernel
theorem dX11_noMan_15 : decode cX11_noMan 15 = .ok (.goto 4, 3) := by decide +kernel
theorem dX11_noMan_18 : decode cX11_noMan 18 = .ok (.iconst 0, 1) := by decide +kernel
theorem dX11_noMan_19 : decode cX11_noMan 19 = .ok (.ireturn, 1) := by decide +kernel
set_option maxHeartbeats 4000000 in
set_option maxRecDepth 100000 in
/-- reference: noMan -/
theorem r_noMan (l : Launch) (D : va_G) (cI cJ cB cC : ClassId) (h : Nat) (th : Int32) (aw : Nat) (ai : Nat) (ab : Nat) (ac : Nat) (hi : Int32) (re : Int32) (aP : Nat) (ta : Int32) (po : Int32) (en : Int32) (be : Int32) (de : Int32) (fa : Int32) (a5 : Nat) (sp : Int32) (av : Nat) (an : Nat) (ak : Nat) (ne : Int32) (aW : Nat) (aC : Nat) (ag : Nat) (aT : Nat) (aN : Nat) (aF : Nat) (fw : Nat → Int32) (mm : Int32) (sz : Nat) (H_fw_W : wW fw) : Met l yX11_noMan kwX11_noMan ({ frames := 1, cells := 0, slots := 0, locals := 22 } : Room) (kPre D (kT cI cJ cB cC) sz [(h, oX11 th aw ai ab ac hi re aP ta po en be de fa a5 sp av an ak ne aW aC ag aT aN aF), (aw, kcI cI 2179 fw)] [.ref h, .int mm]) (va_Qi (fun (r : Int32) (_ : Unit) => F_r_noMan (gT fw) (mm : Int32).toInt = ((r : Int32).toInt) ∧ ((r = 0 ∧ Rg mm 0 9 ∧ (mm : Int32).toInt < (fw 0).toInt) ∨ (r = 1))) (fun (_ : Unit) (t : State) => kB D (kT cI cJ cB cC) (va_A [(h, oX11 th aw ai ab ac hi re aP ta po en be de fa a5 sp av an ak ne aW aC ag aT aN aF), (aw, kcI cI 2179 fw)] sz) [(h, oX11 th aw ai ab ac hi re aP ta po en be de fa a5 sp av an ak ne aW aC ag aT aN aF), (aw, kcI cI 2179 fw)] t) (va_A [(h, oX11 th aw ai ab ac hi re aP ta po en be de fa a5 sp av an ak ne aW aC ag aT aN aF), (aw, kcI cI 2179 fw)] sz)) 0 0 (va_A [(h, oX11 th aw ai ab ac hi re aP ta po en be de fa a5 sp av an ak ne aW aC ag aT aN aF), (aw, kcI cI 2179 fw)] sz) := by
  refine Met.ofW (cc := cX11_noMan) (maxL := 2) (ret := (some .boolean)) (by decide) rfl ?_
  intro p e s m args below meth c s₁ B hml hv
  obtain ⟨rfl, hsz, hN, hE, hP, hK, hD0⟩ := hv
  have hx := B.exec
  have hb := B.bytes
  have hr := B.returns
  have hts := fun (w : Cond) (h : w ∈ kG) => atoms_spec (ws := kwX11_noMan) B.pre w (List.mem_cons_of_mem _ h)
  have hown : s.vm.findClass RX11 = some m.cls := findClass_of_methodNamed B.named
  subst hsz
  have hD := hD0.self (sz := s.heap.size)
  generalize hAe : va_A [(h, oX11 th aw ai ab ac hi re aP ta po en be de fa a5 sp av an ak ne aW aC ag aT aN aF), (aw, kcI cI 2179 fw)] s.heap.size = A at hD hE ⊢
  have hA : ∀ q : Nat, s.heap.size ≤ q → A q := fun q h => by rw [← hAe]; exact Or.inr h
  have hl := lv_entry ([.ref h, .int mm]) (n := 2) (Nat.le_of_ble_eq_true rfl)
  rw [lg_entry_eq]
  generalize (lg_sl ([.ref h, .int mm]) ++ List.replicate (2 - (lg_sl ([.ref h, .int mm])).length) Slot.unset).toArray = ls at hl ⊢
  have hl : lv_has ls 2 [(0, .ref h), (1, .int mm)] := hl
  obtain ⟨H, hH0⟩ : ∃ H, H = s.heap := ⟨_, rfl⟩
  have hS : va_S A s.heap H [] := by rw [hH0]; exact va_S.rf
  have hP : va_P D vwCl [(h, oX11 th aw ai ab ac hi re aP ta po en be de fa a5 sp av an ak ne aW aC ag aT aN aF), (aw, kcI cI 2179 fw)] H := by rw [hH0]; exact hP
  refine kHeap hH0 ?_
  clear hH0
  refine lv_iload_n hx hb dX11_noMan_0 rfl (lv_at hl 1 rfl) ?_
  refine lv_iconst (v := 0) hx hb dX11_noMan_1 (by decide) ?_
  refine lv_aload_n hx hb dX11_noMan_2 rfl (lv_at hl 0 rfl) ?_
  refine kpurei (wc := [(h, oX11 th aw ai ab ac hi re aP ta po en be de fa a5 sp av an ak ne aW aC ag aT aN aF), (aw, kcI cI 2179 fw)]) hP hD hS hA [0, 1] rfl (by decide) (fun hPc hDc hFc => va_runV (As := []) (rest := [.int 0, .int mm]) ⟨hx, hb, hml, hown, hts⟩ (r_men l D cI cJ cB cC h th aw ai ab ac hi re aP ta po en be de fa a5 sp av an ak ne aW aC ag aT aN aF fw H.size H_fw_W) (cwV 0 hts gX11_noMan_X11_men rfl rfl rfl ⟨rfl, hdX11_men⟩ ⟨Nat.le_of_ble_eq_true rfl, Nat.le_of_ble_eq_true rfl⟩) ⟨kBlind, va_recv hK hPc (ci := 10) (q0 := 0) rfl rfl, fun U hU hW => ⟨rfl, by rw [hU], hN.warm hW, hE.pass hS hFc hW hU, by rw [hU]; exact hPc, va_K.moved hW.alike hK, hDc⟩⟩ rfl rfl hl.1 rfl (lv_room (Nat.le_of_ble_eq_true rfl)) dX11_noMan_3 ⟨Nat.le_of_ble_eq_true rfl, Nat.le_of_ble_eq_true rfl⟩) (fun r1 u H locs hw hP hS => ?_)
  obtain ⟨k2, k3, k4⟩ := hw
  refine lv_iconst (v := 1) hx hb dX11_noMan_6 (by decide) ?_
  refine lv_isub hx hb dX11_noMan_7 ?_
  refine lv_topi (fun x5 ex5 => ?_)
  have tx5 : x5.toInt = r1.toInt - 1 := ti_sub ex5 k3 (rg_lit (n := 1) (by decide)) (by decide) rfl (by decide)
  have k6 : Rg x5 (-1) 9 := rg_sub ex5 k3 (rg_lit (n := 1) (by decide)) (by decide)
  refine kpurei (wc := []) hP hD hS hA [] rfl (by decide) (fun hPc hDc hFc => va_runS (As := [.int mm, .int 0, .int x5]) (rest := []) ⟨hx, hb, hml, hown, hts⟩ (r_in_men l D cI cJ cB cC mm x5 H.size k6) (va_cwS 3 hts gX11_noMan_X11_in rfl rfl rfl hdX11_in ⟨Nat.le_of_ble_eq_true rfl, Nat.le_of_ble_eq_true rfl⟩) ⟨kBlind, fun U hU hW => ⟨rfl, by rw [hU], hN.warm hW, hE.pass hS hFc hW hU, by rw [hU]; exact hPc, va_K.moved hW.alike hK, hDc⟩⟩ rfl rfl hl.1 rfl (lv_room (Nat.le_of_ble_eq_true rfl)) dX11_noMan_8 ⟨Nat.le_of_ble_eq_true rfl, Nat.le_of_ble_eq_true rfl⟩) (fun r7 u H locs hw hP hS => ?_)
  obtain ⟨k8, hw⟩ := hw
  rcases hw with rfl | ⟨rfl, kc9_0, kc9_1, kc9_2⟩
  · skip
    refine lv_if_ne (tgt := 18) hx hb dX11_noMan_11 (by decide) (fun c11 => absurd (by decide) c11) (fun _ => ?_)
    refine lv_iconst (v := 1) hx hb dX11_noMan_14 (by decide) ?_
    refine lv_goto (tgt := 19) hx hb dX11_noMan_15 (by decide) ?_
    have hP9 := hP.sub (ws' := [(h, oX11 th aw ai ab ac hi re aP ta po en be de fa a5 sp av an ak ne aW aC ag aT aN aF), (aw, kcI cI 2179 fw)]) [0, 1] rfl
    have hD9 := hD.sub (ws' := [(h, oX11 th aw ai ab ac hi re aP ta po en be de fa a5 sp av an ak ne aW aC ag aT aN aF), (aw, kcI cI 2179 fw)]) [0, 1] (by decide) rfl
    exact W.zret (v := 1) hx hb hr (by decide) (fun t ht hW => ⟨⟨1, (), rfl, ⟨(kLet_eq (k4).symm (kLet_eq (ti_sub ex5 k3 (rg_lit (n := 1) (by decide)) (by decide) rfl rfl) (kLet_eq (k8).symm (kif_t rfl rfl)))), (Or.inr rfl)⟩, by rw [ht]; exact hP9, va_K.moved hW.alike hK, hD9⟩, hS.F ht⟩) hS.2.2 dX11_noMan_19
  · skip
    refine lv_if_ne (tgt := 18) hx hb dX11_noMan_11 (by decide) (fun _ => ?_) (fun c13 => absurd c13 (by decide))
    refine lv_iconst (v := 0) hx hb dX11_noMan_18 (by decide) ?_
    have hP9 := hP.sub (ws' := [(h, oX11 th aw ai ab ac hi re aP ta po en be de fa a5 sp av an ak ne aW aC ag aT aN aF), (aw, kcI cI 2179 fw)]) [0, 1] rfl
    have hD9 := hD.sub (ws' := [(h, oX11 th aw ai ab ac hi re aP ta po en be de fa a5 sp av an ak ne aW aC ag aT aN aF), (aw, kcI cI 2179 fw)]) [0, 1] (by decide) rfl
    exact W.zret (v := 0) hx hb hr (by decide) (fun t ht hW => ⟨⟨0, (), rfl, ⟨(kLet_eq (k4).symm (kLet_eq (ti_sub ex5 k3 (rg_lit (n := 1) (by decide)) (by decide) rfl rfl) (kLet_eq (k8).symm (kif_f (by decide) rfl)))), (Or.inl ⟨rfl, kc9_0, (by have q1 := kc9_2; have q2 := tx5; rw [k2] at q2; omega)⟩)⟩, by rw [ht]; exact hP9, va_K.moved hW.alike hK, hD9⟩, hS.F ht⟩) hS.2.2 dX11_noMan_19

def kwX11_noShirt : List Cond := .code yX11_noShirt cX11_noShirt 2 (some .boolean) :: kG
theorem hdX11_noShirt : yX11_noShirt.cls ≠ "java/lang/invoke/MethodHandle" ∧ yX11_noShirt.cls ≠ "java/lang/invoke/VarHandle" ∧ (parseMethodDescriptor yX11_noShirt.desc).map (fun d => d.parameters.length) = some 1 := by decide +kernel
theorem gX11_noShirt_X11_in : GoodIn kG (va_wsS RX11 75 yX11_in kwX11_in) := gK w27_8 (gK w27_9 (gK w0_5 (gK w27_10 gGG)))
theorem gX11_noShirt_X11_shirts : GoodIn kG (wsV RX11 79 RX11 yX11_shirts kwX11_shirts) := gK w20_17 (gK w20_18 (gK w20_19 (gK w0_5 (gK w20_20 gGG))))
theorem dX11_noShirt_0 : decode cX11_noShirt 0 = .ok (.iload_n 1, 1) := by decide +kernel
theorem dX11_noShirt_1 : decode cX11_noShirt 1 = .ok (.iconst 0, 1) := by decide +kernel
theorem dX11_noShirt_2 : decode cX11_noShirt 2 = .ok (.aload_n 0, 1) := by decide +kernel
theorem dX11_noShirt_3 : decode cX11_noShirt 3 = .ok (.invokevirtual 79, 3) := by decide +kernel
theorem dX11_noShirt_6 : decode cX11_noShirt 6 = .ok (.iconst 1, 1) := by decide +kernel
theorem dX11_noShirt_7 : decode cX11_noShirt 7 = .ok (.isub, 1) := by decide +kernel
theorem dX11_noShirt_8 : decode cX11_noShirt 8 = .ok (.invokestatic 75, 3) := by decide +kernel
theorem dX11_noShirt_11 : decode cX11_noShirt 11 = .ok (.ifCond .ne 7, 3) := by decide +kernel
theorem dX11_noShirt_14 : decode cX11_noShirt 14 = .ok (.iconst 1, 1) := by decide +kernel
theorem dX11_noShirt_15 : decode cX11_noShirt 15 = .ok (.goto 4, 3) := by decide +kernel
theorem dX11_noShirt_18 : decode cX11_noShirt 18 = .ok (.iconst 0, 1) := by decide +kernel
theorem dX11_noShirt_19 : decode cX11_noShirt 19 = .ok (.ireturn, 1) := by decide +kernel
set_option maxHeartbeats 4000000 in
set_option maxRecDepth 100000 in
/-- reference: noShirt -/
theorem r_noShirt (l : Launch) (D : va_G) (cI cJ cB cC : ClassId) (h : Nat) (th : Int32) (aw : Nat) (ai : Nat) (ab : Nat) (ac : Nat) (hi : Int32) (re : Int32) (aP : Nat) (ta : Int32) (po : Int32) (en : Int32) (be : Int32) (de : Int32) (fa : Int32) (a5 : Nat) (sp : Int32) (av : Nat) (an : Nat) (ak : Nat) (ne : Int32) (aW : Nat) (aC : Nat) (ag : Nat) (aT : Nat) (aN : Nat) (aF : Nat) (fw : Nat → Int32) (mm : Int32) (sz : Nat) (H_fw_W : wW fw) : Met l yX11_noShirt kwX11_noShirt ({ frames := 1, cells := 0, slots := 0, locals := 22 } : Room) (kPre D (kT cI cJ cB cC) sz [(h, oX11 th aw ai ab ac hi re aP ta po en be de fa a5 sp av an ak ne aW aC ag aT aN aF), (aw, kcI cI 2179 fw)] [.ref h, .int mm]) (va_Qi (fun (r : Int32) (_ : Unit) => F_r_noShirt (gT fw) (mm : Int32).toInt = ((r : Int32).toInt) ∧ ((r = 0 ∧ Rg mm 0 11 ∧ (mm : Int32).toInt < (fw 1).toInt) ∨ (r = 1))) (fun (_ : Unit) (t : State) => kB D (kT cI cJ cB cC) (va_A [(h, oX11 th aw ai ab ac hi re aP ta po en be de fa a5 sp av an ak ne aW aC ag aT aN aF), (aw, kcI cI 2179 fw)] sz) [(h, oX11 th aw ai ab ac hi re aP ta po en be de fa a5 sp av an ak ne aW aC ag aT aN aF), (aw, kcI cI 2179 fw)] t) (va_A [(h, oX11 th aw ai ab ac hi re aP ta po en be de fa a5 sp av an ak ne aW aC ag aT aN aF), (aw, kcI cI 2179 fw)] sz)) 0 0 (va_A [(h, oX11 th aw ai ab ac hi re aP ta po en be de fa a5 sp av an ak ne aW aC ag aT aN aF), (aw, kcI cI 2179 fw)] sz) := by
  refine Met.ofW (cc := cX11_noShirt) (maxL := 2) (ret := (some .boolean)) (by decide) rfl ?_
  intro p e s m args below meth c s₁ B hml hv
  obtain ⟨rfl, hsz, hN, hE, hP, hK, hD0⟩ := hv
  have hx := B.exec
  have hb := B.bytes
  have hr := B.returns
  have hts := fun (w : Cond) (h : w ∈ kG) => atoms_spec (ws := kwX11_noShirt) B.pre w (List.mem_cons_of_mem _ h)
  have hown : s.vm.findClass RX11 = some m.cls := findClass_of_methodNamed B.named
  subst hsz
  have hD := hD0.self (sz := s.heap.size)
  generalize hAe : va_A [(h, oX11 th aw ai ab ac hi re aP ta po en be de fa a5 sp av an ak ne aW aC ag aT aN aF), (aw, kcI cI 2179 fw)] s.heap.size = A at hD hE ⊢
  have hA : ∀ q : Nat, s.heap.size ≤ q → A q := fun q h => by rw [← hAe]; exact Or.inr h
  have hl := lv_entry ([.ref h, .int mm]) (n := 2) (Nat.le_of_ble_eq_true rfl)
  rw [lg_entry_eq]
  generalize (lg_sl ([.ref h, .int mm]) ++ List.replicate (2 - (lg_sl ([.ref h, .int mm])).length) Slot.unset).toArray = ls at hl ⊢
  have hl : lv_has ls 2 [(0, .ref h), (1, .int mm)] := hl
  obtain ⟨H, hH0⟩ : ∃ H, H = s.heap := ⟨_, rfl⟩
  have hS : va_S A s.heap H [] := by rw [hH0]; exact va_S.rf
  have hP : va_P D vwCl [(h, oX11 th aw ai ab ac hi re aP ta po en be de fa a5 sp av an ak ne aW aC ag aT aN aF), (aw, kcI cI 2179 fw)] H := by rw [hH0]; exact hP
  refine kHeap hH0 ?_
  clear hH0
  refine lv_iload_n hx hb dX11_noShirt_0 rfl (lv_at hl 1 rfl) ?_
  refine lv_iconst (v := 0) hx hb dX11_noShirt_1 (by decide) ?_
  refine lv_aload_n hx hb dX11_noShirt_2 rfl (lv_at hl 0 rfl) ?_
  refine kpurei (wc := [(h, oX11 th aw ai ab ac hi re aP ta po en be de fa a5 sp av an ak ne aW aC ag aT aN aF), (aw, kcI cI 2179 fw)]) hP hD hS hA [0, 1] rfl (by decide) (fun hPc hDc hFc => va_runV (As := []) (rest := [.int 0, .int mm]) ⟨hx, hb, hml, hown, hts⟩ (r_shirts l D cI cJ cB cC h th aw ai ab ac hi re aP ta po en be de fa a5 sp av an ak ne aW aC ag aT aN aF fw H.size H_fw_W) (cwV 0 hts gX11_noShirt_X11_shirts rfl rfl rfl ⟨rfl, hdX11_shirts⟩ ⟨Nat.le_of_ble_eq_true rfl, Nat.le_of_ble_eq_true rfl⟩) ⟨kBlind, va_recv hK hPc (ci := 10) (q0 := 0) rfl rfl, fun U hU hW => ⟨rfl, by rw [hU], hN.warm hW, hE.pass hS hFc hW hU, by rw [hU]; exact hPc, va_K.moved hW.alike hK, hDc⟩⟩ rfl rfl hl.1 rfl (lv_room (Nat.le_of_ble_eq_true rfl)) dX11_noShirt_3 ⟨Nat.le_of_ble_eq_true rfl, Nat.le_of_ble_eq_true rfl⟩) (fun r1 u H locs hw hP hS => ?_)
  obtain ⟨k2, k3, k4⟩ := hw
  refine lv_iconst (v := 1) hx hb dX11_noShirt_6 (by decide) ?_
  refine lv_isub hx hb dX11_noShirt_7 ?_
  refine lv_topi (fun x5 ex5 => ?_)
  have tx5 : x5.toInt = r1.toInt - 1 := ti_sub ex5 k3 (rg_lit (n := 1) (by decide)) (by decide) rfl (by decide)
  have k6 : Rg x5 (-1) 11 := rg_sub ex5 k3 (rg_lit (n := 1) (by decide)) (by decide)
  refine kpurei (wc := []) hP hD hS hA [] rfl (by decide) (fun hPc hDc hFc => va_runS (As := [.int mm, .int 0, .int x5]) (rest := []) ⟨hx, hb, hml, hown, hts⟩ (r_in_shirts l D cI cJ cB cC mm x5 H.size k6) (va_cwS 3 hts gX11_noShirt_X11_in rfl rfl rfl hdX11_in ⟨Nat.le_of_ble_eq_true rfl, Nat.le_of_ble_eq_true rfl⟩) ⟨kBlind, fun U hU hW => ⟨rfl, by rw [hU], hN.warm hW, hE.pass hS hFc hW hU, by rw [hU]; exact hPc, va_K.moved hW.alike hK, hDc⟩⟩ rfl rfl hl.1 rfl (lv_room (Nat.le_of_ble_eq_true rfl)) dX11_noShirt_8 ⟨Nat.le_of_ble_eq_true rfl, Nat.le_of_ble_eq_true rfl⟩) (fun r7 u H locs hw hP hS => ?_)
  obtain ⟨k8, hw⟩ := hw
  rcases hw with rfl | ⟨rfl, kc9_0, kc9_1, kc9_2⟩
  · skip
    refine lv_if_ne (tgt := 18) hx hb dX11_noShirt_11 (by decide) (fun c11 => absurd (by decide) c11) (fun _ => ?_)
    refine lv_iconst (v := 1) hx hb dX11_noShirt_14 (by decide) ?_
    refine lv_goto (tgt := 19) hx hb dX11_noShirt_15 (by decide) ?_
    have hP9 := hP.sub (ws' := [(h, oX11 th aw ai ab ac hi re aP ta po en be de fa a5 sp av an ak ne aW aC ag aT aN aF), (aw, kcI cI 2179 fw)]) [0, 1] rfl
    have hD9 := hD.sub (ws' := [(h, oX11 th aw ai ab ac hi re aP ta po en be de fa a5 sp av an ak ne aW aC ag aT aN aF), (aw, kcI cI 2179 fw)]) [0, 1] (by decide) rfl
    exact W.zret (v := 1) hx hb hr (by decide) (fun t ht hW => ⟨⟨1, (), rfl, ⟨(kLet_eq (k4).symm (kLet_eq (ti_sub ex5 k3 (rg_lit (n := 1) (by decide)) (by decide) rfl rfl) (kLet_eq (k8).symm (kif_t rfl rfl)))), (Or.inr rfl)⟩, by rw [ht]; exact hP9, va_K.moved hW.alike hK, hD9⟩, hS.F ht⟩) hS.2.2 dX11_noShirt_19
  · skip
    refine lv_if_ne (tgt := 18) hx hb dX11_noShirt_11 (by decide) (fun _ => ?_) (fun c13 => absurd c13 (by decide))
    refine lv_iconst (v := 0) hx hb dX11_noShirt_18 (by decide) ?_
    have hP9 := hP.sub (ws' := [(h, oX11 th aw ai ab ac hi re aP ta po en be de fa a5 sp av an ak ne aW aC ag aT aN aF), (aw, kcI cI 2179 fw)]) [0, 1] rfl
    have hD9 := hD.sub (ws' := [(h, oX11 th aw ai ab ac hi re aP ta po en be de fa a5 sp av an ak ne aW aC ag aT aN aF), (aw, kcI cI 2179 fw)]) [0, 1] (by decide) rfl
    exact W.zret (v := 0) hx hb hr (by decide) (fun t ht hW => ⟨⟨0, (), rfl, ⟨(kLet_eq (k4).symm (kLet_eq (ti_sub ex5 k3 (rg_lit (n := 1) (by decide)) (by decide) rfl rfl) (kLet_eq (k8).symm (kif_f (by decide) rfl)))), (Or.inl ⟨rfl, kc9_0, (by have q1 := kc9_2; have q2 := tx5; rw [k2] at q2; omega)⟩)⟩, by rw [ht]; exact hP9, va_K.moved hW.alike hK, hD9⟩, hS.F ht⟩) hS.2.2 dX11_noShirt_19

def kwX11_draw : List Cond := .code yX11_draw cX11_draw 2 (some .int) :: kG
theorem hdX11_draw : yX11_draw.cls ≠ "java/lang/invoke/MethodHandle" ∧ yX11_draw.cls ≠ "java/lang/invoke/VarHandle" ∧ (parseMethodDescriptor yX11_draw.desc).map (fun d => d.parameters.length) = some 1 := by decide +kernel
theorem dX11_draw_0 : decode cX11_draw 0 = .ok (.aload_n 0, 1) := by decide +kernel
theorem dX11_draw_1 : decode cX11_draw 1 = .ok (.getfield 13, 3) := by decide +kernel
theorem dX11_draw_4 : decode cX11_draw 4 = .ok (.bipush 9, 2) := by decide +kernel
theorem dX11_draw_6 : decode cX11_draw 6 = .ok (.ldc 82, 2) := by decide +kernel
theorem dX11_draw_8 : decode cX11_draw 8 = .ok (.aload_n 0, 1) := by decide +kernel
theorem dX11_draw_9 : decode cX11_draw 9 = .ok (.getfield 13, 3) := by decide +kernel
theorem dX11_draw_12 : decode cX11_draw 12 = .ok (.bipush 9, 2) := by decide +kernel
theorem dX11_draw_14 : decode cX11_draw 14 = .ok (.iaload, 1) := by decide +kernel
theorem dX11_draw_15 : decode cX11_draw 15 = .ok (.imul, 1) := by decide +kernel
theorem dX11_draw_16 : decode cX11_draw 16 = .ok (.sipush 12345, 3) := by decide +kernel
theorem dX11_draw_19 : decode cX11_draw 19 = .ok (.iadd, 1) := by decide +kernel
theorem dX11_draw_20 : decode cX11_draw 20 = .ok (.iastore, 1) := by decide +kernel
theorem dX11_draw_21 : decode cX11_draw 21 = .ok (.aload_n 0, 1) := by decide +kernel
theorem dX11_draw_22 : decode cX11_draw 22 = .ok (.getfield 13, 3) := by decide +kernel
theorem dX11_draw_25 : decode cX11_draw 25 = .ok (.bipush 9, 2) := by decide +kernel
theorem dX11_draw_27 : decode cX11_draw 27 = .ok (.iaload, 1) := by decide +kernel
theorem dX11_draw_28 : decode cX11_draw 28 = .ok (.bipush 16, 2) := by decide +kernel
theorem dX11_draw_30 : decode cX11_draw 30 = .ok (.ishr, 1) := by decide +kernel
theorem dX11_draw_31 : decode cX11_draw 31 = .ok (.sipush 32767, 3) := by decide +kernel
theorem dX11_draw_34 : decode cX11_draw 34 = .ok (.iand, 1) := by decide +kernel
theorem dX11_draw_35 : decode cX11_draw 35 = .ok (.iload_n 1, 1) := by decide +kernel
theorem dX11_draw_36 : decode cX11_draw 36 = .ok (.irem, 1) := by decide +kernel
theorem dX11_draw_37 : decode cX11_draw 37 = .ok (.ireturn, 1) := by decide +kernel
set_option maxHeartbeats 4000000 in
set_option maxRecDepth 100000 in
/-- reference: draw -/
theorem r_draw (l : Launch) (D : va_G) (cI cJ cB cC : ClassId) (h : Nat) (th : Int32) (aw : Nat) (ai : Nat) (ab : Nat) (ac : Nat) (hi : Int32) (re : Int32) (aP : Nat) (ta : Int32) (po : Int32) (en : Int32) (be : Int32) (de : Int32) (fa : Int32) (a5 : Nat) (sp : Int32) (av : Nat) (an : Nat) (ak : Nat) (ne : Int32) (aW : Nat) (aC : Nat) (ag : Nat) (aT : Nat) (aN : Nat) (aF : Nat) (fw : Nat → Int32) (n : Int32) (sz : Nat) (H_n : Rg n 1 100) (H_fw_W : wW fw) (H_fw_B : wB fw) (H_fw_L : wL fw) : Met l yX11_draw kwX11_draw ({ frames := 0, cells := 0, slots := 0, locals := 0 } : Room) (kPre D (kT cI cJ cB cC) sz [(h, oX11 th aw ai ab ac hi re aP ta po en be de fa a5 sp av an ak ne aW aC ag aT aN aF), (aw, kcI cI 2179 fw)] [.ref h, .int n]) (va_Qi (fun (r : Int32) (f0_ : (Nat → Int32)) => wB f0_ ∧ wL f0_ ∧ wW f0_ ∧ Rg r 0 99 ∧ F_r_draw (gT fw) (n : Int32).toInt = ((r : Int32).toInt, (gT f0_))) (fun (f0_ : (Nat → Int32)) (t : State) => kB D (kT cI cJ cB cC) (va_A [(h, oX11 th aw ai ab ac hi re aP ta po en be de fa a5 sp av an ak ne aW aC ag aT aN aF), (aw, kcI cI 2179 fw)] sz) [(h, oX11 th aw ai ab ac hi re aP ta po en be de fa a5 sp av an ak ne aW aC ag aT aN aF), (aw, kcI cI 2179 f0_)] t) (va_A [(h, oX11 th aw ai ab ac hi re aP ta po en be de fa a5 sp av an ak ne aW aC ag aT aN aF), (aw, kcI cI 2179 fw)] sz)) 0 0 (va_A [(h, oX11 th aw ai ab ac hi re aP ta po en be de fa a5 sp av an ak ne aW aC ag aT aN aF), (aw, kcI cI 2179 fw)] sz) := by
  refine Met.ofW (cc := cX11_draw) (maxL := 2) (ret := (some .int)) (by decide) rfl ?_
  intro p e s m args below meth c s₁ B hml hv
  obtain ⟨rfl, hsz, hN, hE, hP, hK, hD0⟩ := hv
  have hx := B.exec
  have hb := B.bytes
  have hr := B.returns
  have hts := fun (w : Cond) (h : w ∈ kG) => atoms_spec (ws := kwX11_draw) B.pre w (List.mem_cons_of_mem _ h)
  have hown : s.vm.findClass RX11 = some m.cls := findClass_of_methodNamed B.named
  subst hsz
  have hD := hD0.self (sz := s.heap.size)
  generalize hAe : va_A [(h, oX11 th aw ai ab ac hi re aP ta po en be de fa a5 sp av an ak ne aW aC ag aT aN aF), (aw, kcI cI 2179 fw)] s.heap.size = A at hD hE ⊢
  have hA : ∀ q : Nat, s.heap.size ≤ q → A q := fun q h => by rw [← hAe]; exact Or.inr h
  have hl := lv_entry ([.ref h, .int n]) (n := 2) (Nat.le_of_ble_eq_true rfl)
  rw [lg_entry_eq]
  generalize (lg_sl ([.ref h, .int n]) ++ List.replicate (2 - (lg_sl ([.ref h, .int n])).length) Slot.unset).toArray = ls at hl ⊢
  have hl : lv_has ls 2 [(0, .ref h), (1, .int n)] := hl
  obtain ⟨H, hH0⟩ : ∃ H, H = s.heap := ⟨_, rfl⟩
  have hS : va_S A s.heap H [] := by rw [hH0]; exact va_S.rf
  have hP : va_P D vwCl [(h, oX11 th aw ai ab ac hi re aP ta po en be de fa a5 sp av an ak ne aW aC ag aT aN aF), (aw, kcI cI 2179 fw)] H := by rw [hH0]; exact hP
  refine kHeap hH0 ?_
  clear hH0
  refine lv_aload_n hx hb dX11_draw_0 rfl (lv_at hl 0 rfl) ?_
  refine va_get (D := D) (ci := 10) (v := .ref aw) (C := RX11) (T := TX11) (N := 26) hx hb hts iG_X11 hown hK hP 0 rfl rfl 1 (by decide) (hts _ w5_3) (fun _ h9 => h9) rfl dX11_draw_1 ?_
  refine lv_bipush (v := 9) hx hb dX11_draw_4 (by decide) ?_
  refine lv_ldc (v := 1103515245) hx hb hown (hts _ w34_8) dX11_draw_6 ?_
  refine lv_aload_n hx hb dX11_draw_8 rfl (lv_at hl 0 rfl) ?_
  refine va_get (D := D) (ci := 10) (v := .ref aw) (C := RX11) (T := TX11) (N := 26) hx hb hts iG_X11 hown hK hP 0 rfl rfl 1 (by decide) (hts _ w5_3) (fun _ h9 => h9) rfl dX11_draw_9 ?_
  refine lv_bipush (v := 9) hx hb dX11_draw_12 (by decide) ?_
  refine va_iald hx hb hK hP 1 0 rfl rfl (rg_in (rg_lit (n := 9) (by decide)) (by decide)) dX11_draw_14 ?_
  refine lv_topi (fun x1 ex1 => ?_)
  refine lv_imul hx hb dX11_draw_15 ?_
  refine lv_topi (fun x2 ex2 => ?_)
  refine lv_sipush (v := 12345) hx hb dX11_draw_16 (by decide) ?_
  refine lv_iadd hx hb dX11_draw_19 ?_
  refine lv_topi (fun x3 ex3 => ?_)
  refine va_iast hx hb hK hP hD hS 1 0 rfl rfl (rg_in (rg_lit (n := 9) (by decide)) (by decide)) dX11_draw_20 (fun H locs hP hD hS => ?_)
  have hP : va_P D vwCl [(h, oX11 th aw ai ab ac hi re aP ta po en be de fa a5 sp av an ak ne aW aC ag aT aN aF), (aw, kcI cI 2179 (upd fw (9 : Int32).toNatClampNeg x3))] H := hP
  have hD : va_D A [(h, oX11 th aw ai ab ac hi re aP ta po en be de fa a5 sp av an ak ne aW aC ag aT aN aF), (aw, kcI cI 2179 (upd fw (9 : Int32).toNatClampNeg x3))] := hD
  have k5 : wW (upd fw (9 : Int32).toNatClampNeg x3) := wW_lo H_fw_W (rg_lit (n := 9) (by decide)) (by decide)
  have k6 : wB (upd fw (9 : Int32).toNatClampNeg x3) := wB_lo H_fw_B H_fw_W (rg_lit (n := 9) (by decide)) (by decide)
  have k7 : wL (upd fw (9 : Int32).toNatClampNeg x3) := wL_out H_fw_L (rg_lit (n := 9) (by decide)) (by decide)
  generalize hg4 : (upd fw (9 : Int32).toNatClampNeg x3) = g4 at hP hD k5 k6 k7
  refine lv_aload_n hx hb dX11_draw_21 rfl (lv_at hl 0 rfl) ?_
  refine va_get (D := D) (ci := 10) (v := .ref aw) (C := RX11) (T := TX11) (N := 26) hx hb hts iG_X11 hown hK hP 0 rfl rfl 1 (by decide) (hts _ w5_3) (fun _ h9 => h9) rfl dX11_draw_22 ?_
  refine lv_bipush (v := 9) hx hb dX11_draw_25 (by decide) ?_
  refine va_iald hx hb hK hP 1 0 rfl rfl (rg_in (rg_lit (n := 9) (by decide)) (by decide)) dX11_draw_27 ?_
  refine lv_topi (fun x8 ex8 => ?_)
  refine lv_bipush (v := 16) hx hb dX11_draw_28 (by decide) ?_
  refine lv_ishr hx hb dX11_draw_30 ?_
  refine lv_topi (fun x9 ex9 => ?_)
  refine lv_sipush (v := 32767) hx hb dX11_draw_31 (by decide) ?_
  refine lv_iand hx hb dX11_draw_34 ?_
  refine lv_topi (fun x10 ex10 => ?_)
  have k11 : Rg x10 0 32767 := rg_andr ex10 (rg_lit (n := 32767) (by decide)) (by decide)
  refine lv_iload_n hx hb dX11_draw_35 rfl (lv_at hl 1 rfl) ?_
  refine lv_irem hx hb dX11_draw_36 (rg_ne H_n (by decide)) ?_
  refine lv_topi (fun x12 ex12 => ?_)
  have k13 : Rg x12 0 99 := rg_rem ex12 k11 H_n (by decide)
  have hP9 := hP.sub (ws' := [(h, oX11 th aw ai ab ac hi re aP ta po en be de fa a5 sp av an ak ne aW aC ag aT aN aF), (aw, kcI cI 2179 g4)]) [0, 1] rfl
  have hD9 := hD.sub (ws' := [(h, oX11 th aw ai ab ac hi re aP ta po en be de fa a5 sp av an ak ne aW aC ag aT aN aF), (aw, kcI cI 2179 g4)]) [0, 1] (by decide) rfl
  exact W.iret (v := x12) hx hb hr (fun t ht hW => ⟨⟨x12, (g4), rfl, ⟨k6, k7, k5, k13, (kLet_eq (ke_ld ex1) (kLet_eq (ke_wmul ex2) (kLet_eq (ke_wadd ex3) (kLet_eq (ke_st hg4) (kLet_eq (ke_ld ex8) (kLet_eq (ke_shr ex9) (kLet_eq (ke_and ex10) (kLet_eq (ke_rem ex12) rfl))))))))⟩, by rw [ht]; exact hP9, va_K.moved hW.alike hK, hD9⟩, hS.F ht⟩) hS.2.2 dX11_draw_37

def kwX11_feed : List Cond := .code yX11_feed cX11_feed 7 (some .int) :: kG
theorem hdX11_feed : yX11_feed.cls ≠ "java/lang/invoke/MethodHandle" ∧ yX11_feed.cls ≠ "java/lang/invoke/VarHandle" ∧ (parseMethodDescriptor yX11_feed.desc).map (fun d => d.parameters.length) = some 5 := by decide +kernel
theorem dX11_feed_0 : decode cX11_feed 0 = .ok (.aload_n 0, 1) := by decide +kernel
theorem dX11_feed_1 : decode cX11_feed 1 = .ok (.iconst 0, 1) := by decide +kernel
theorem dX11_feed_2 : decode cX11_feed 2 = .ok (.putfield 3, 3) := by decide +kernel
theorem dX11_feed_5 : decode cX11_feed 5 = .ok (.aload_n 0, 1) := by decide +kernel
theorem dX11_feed_6 : decode cX11_feed 6 = .ok (.getfield 83, 3) := by decide +kernel
theorem dX11_feed_9 : decode cX11_feed 9 = .ok (.bipush 20, 2) := by decide +kernel
theorem dX11_feed_11 : decode cX11_feed 11 = .ok (.iadd, 1) := by decide +kernel
theorem dX11_feed_12 : decode cX11_feed 12 = .ok (.sipush 400, 3) := by decide +kernel
theorem dX11_feed_15 : decode cX11_feed 15 = .ok (.if_icmp .le 5, 3) := by decide +kernel
theorem dX11_feed_18 : decode cX11_feed 18 = .ok (.iconst (-1), 1) := by decide +kernel
theorem dX11_feed_19 : decode cX11_feed 19 = .ok (.ireturn, 1) := by decide +kernel
theorem dX11_feed_20 : decode cX11_feed 20 = .ok (.aload_n 0, 1) := by decide +kernel
theorem dX11_feed_21 : decode cX11_feed 21 = .ok (.getfield 33, 3) := by decide +kernel
theorem dX11_feed_24 : decode cX11_feed 24 = .ok (.iconst 0, 1) := by decide +kernel
theorem dX11_feed_25 : decode cX11_feed 25 = .ok (.iload_n 1, 1) := by decide +kernel
theorem dX11_feed_26 : decode cX11_feed 26 = .ok (.iastore, 1) := by decide +kernel
theorem dX11_feed_27 : decode cX11_feed 27 = .ok (.aload_n 0, 1) := by decide +kernel
theorem dX11_feed_28 : decode cX11_feed 28 = .ok (.getfield 33, 3) := by decide +kernel
theorem dX11_feed_31 : decode cX11_feed 31 = .ok (.iconst 1, 1) := by decide +kernel
theorem dX11_feed_32 : decode cX11_feed 32 = .ok (.iload_n 2, 1) := by decide +kernel
theorem dX11_feed_33 : decode cX11_feed 33 = .ok (.iastore, 1) := by decide +kernel
theorem dX11_feed_34 : decode cX11_feed 34 = .ok (.aload_n 0, 1) := by decide +kernel
theorem dX11_feed_35 : decode cX11_feed 35 = .ok (.getfield 33, 3) := by decide +kernel
theorem dX11_feed_38 : decode cX11_feed 38 = .ok (.iconst 2, 1) := by decide +kernel
theorem dX11_feed_39 : decode cX11_feed 39 = .ok (.iload_n 3, 1) := by decide +kernel
theorem dX11_feed_40 : decode cX11_feed 40 = .ok (.iastore, 1) := by decide +kernel
theorem dX11_feed_41 : decode cX11_feed 41 = .ok (.aload_n 0, 1) := by decide +kernel
theorem dX11_feed_42 : decode cX11_feed 42 = .ok (.getfield 33, 3) := by decide +kernel
theorem dX11_feed_45 : decode cX11_feed 45 = .ok (.iconst 3, 1) := by decide +kernel
theorem dX11_feed_46 : decode cX11_feed 46 = .ok (.iload 4, 2) := by decide +kernel
theorem dX11_feed_48 : decode cX11_feed 48 = .ok (.iastore, 1) := by decide +kernel
theorem dX11_feed_49 : decode cX11_feed 49 = .ok (.aload_n 0, 1) := by decide +kernel
theorem dX11_feed_50 : decode cX11_feed 50 = .ok (.getfield 33, 3) := by decide +kernel
theorem dX11_feed_53 : decode cX11_feed 53 = .ok (.iconst 4, 1) := by decide +kernel
theorem dX11_feed_54 : decode cX11_feed 54 = .ok (.iload 5, 2) := by decide +kernel
theorem dX11_feed_56 : decode cX11_feed 56 = .ok (.iastore, 1) := by decide +kernel
theorem dX11_feed_57 : decode cX11_feed 57 = .ok (.iconst 0, 1) := by decide +kernel
theorem dX11_feed_58 : decode cX11_feed 58 = .ok (.istore 6, 2) := by decide +kernel
theorem dX11_feed_60 : decode cX11_feed 60 = .ok (.iload 6, 2) := by decide +kernel
theorem dX11_feed_62 : decode cX11_feed 62 = .ok (.bipush 20, 2) := by decide +kernel
theorem dX11_feed_64 : decode cX11_feed 64 = .ok (.if_icmp .ge 42, 3) := by decide +kernel
theorem dX11_feed_67 : decode cX11_feed 67 = .ok (.aload_n 0, 1) := by decide +kernel
theorem dX11_feed_68 : decode cX11_feed 68 = .ok (.getfield 26, 3) := by decide +kernel
theorem dX11_feed_71 : decode cX11_feed 71 = .ok (.aload_n 0, 1) := by decide +kernel
theorem dX11_feed_72 : decode cX11_feed 72 = .ok (.getfield 83, 3) := by decide +kernel
theorem dX11_feed_75 : decode cX11_feed 75 = .ok (.iload 6, 2) := by decide +kernel
theorem dX11_feed_77 : decode cX11_feed 77 = .ok (.iadd, 1) := by decide +kernel
theorem dX11_feed_78 : decode cX11_feed 78 = .ok (.aload_n 0, 1) := by decide +kernel
theorem dX11_feed_79 : decode cX11_feed 79 = .ok (.getfield 33, 3) := by decide +kernel
theorem dX11_feed_82 : decode cX11_feed 82 = .ok (.iload 6, 2) := by decide +kernel
theorem dX11_feed_84 : decode cX11_feed 84 = .ok (.iconst 4, 1) := by decide +kernel
theorem dX11_feed_85 : decode cX11_feed 85 = .ok (.idiv, 1) := by decide +kernel
theorem dX11_feed_86 : decode cX11_feed 86 = .ok (.iaload, 1) := by decide +kernel
theorem dX11_feed_87 : decode cX11_feed 87 = .ok (.bipush 24, 2) := by decide +kernel
theorem dX11_feed_89 : decode cX11_feed 89 = .ok (.bipush 8, 2) := by decide +kernel
theorem dX11_feed_91 : decode cX11_feed 91 = .ok (.iload 6, 2) := by decide +kernel
theorem dX11_feed_93 : decode cX11_feed 93 = .ok (.iconst 4, 1) := by decide +kernel
theorem dX11_feed_94 : decode cX11_feed 94 = .ok (.irem, 1) := by decide +kernel
theorem dX11_feed_95 : decode cX11_feed 95 = .ok (.imul, 1) := by decide +kernel
theorem dX11_feed_96 : decode cX11_feed 96 = .ok (.isub, 1) := by decide +kernel
theorem dX11_feed_97 : decode cX11_feed 97 = .ok (.ishr, 1) := by decide +kernel
theorem dX11_feed_98 : decode cX11_feed 98 = .ok (.i2b, 1) := by decide +kernel
theorem dX11_feed_99 : decode cX11_feed 99 = .ok (.bastore, 1) := by decide +kernel
theorem dX11_feed_100 : decode cX11_feed 100 = .ok (.iinc 6 1, 3) := by decide +kernel
theorem dX11_feed_103 : decode cX11_feed 103 = .ok (.goto (-43), 3) := by decide +kernel
theorem dX11_feed_106 : decode cX11_feed 106 = .ok (.aload_n 0, 1) := by decide +kernel
theorem dX11_feed_107 : decode cX11_feed 107 = .ok (.dup, 1) := by decide +kernel
theorem dX11_feed_108 : decode cX11_feed 108 = .ok (.getfield 83, 3) := by decide +kernel
theorem dX11_feed_111 : decode cX11_feed 111 = .ok (.bipush 20, 2) := by decide +kernel
theorem dX11_feed_113 : decode cX11_feed 113 = .ok (.iadd, 1) := by decide +kernel
theorem dX11_feed_114 : decode cX11_feed 114 = .ok (.putfield 83, 3) := by decide +kernel
theorem dX11_feed_117 : decode cX11_feed 117 = .ok (.aload_n 0, 1) := by decide +kernel
theorem dX11_feed_118 : decode cX11_feed 118 = .ok (.getfield 83, 3) := by decide +kernel
theorem dX11_feed_121 : decode cX11_feed 121 = .ok (.ireturn, 1) := by decide +kernel
def kwX11_end : List Cond := .code yX11_end cX11_end 2 (some .boolean) :: kG
theorem hdX11_end : yX11_end.cls ≠ "java/lang/invoke/MethodHandle" ∧ yX11_end.cls ≠ "java/lang/invoke/VarHandle" ∧ (parseMethodDescriptor yX11_end.desc).map (fun d => d.parameters.length) = some 1 := by decide +kernel
theorem dX11_end_0 : decode cX11_end 0 = .ok (.aload_n 0, 1) := by decide +kernel
theorem dX11_end_1 : decode cX11_end 1 = .ok (.iconst 0, 1) := by decide +kernel
theorem dX11_end_2 : decode cX11_end 2 = .ok (.putfield 3, 3) := by decide +kernel
theorem dX11_end_5 : decode cX11_end 5 = .ok (.iload_n 1, 1) := by decide +kernel
theorem dX11_end_6 : decode cX11_end 6 = .ok (.ifCond .lt 11, 3) := by decide +kernel
theorem dX11_end_9 : decode cX11_end 9 = .ok (.iload_n 1, 1) := by decide +kernel
theorem dX11_end_10 : decode cX11_end 10 = .ok (.aload_n 0, 1) := by decide +kernel
theorem dX11_end_11 : decode cX11_end 11 = .ok (.getfield 83, 3) := by decide +kernel
theorem dX11_end_14 : decode cX11_end 14 = .ok (.if_icmp .le 5, 3) := by decide +kernel
theorem dX11_end_17 : decode cX11_end 17 = .ok (.iconst 0, 1) := by decide +kernel
theorem dX11_end_18 : decode cX11_end 18 = .ok (.ireturn, 1) := by decide +kernel
theorem dX11_end_19 : decode cX11_end 19 = .ok (.aload_n 0, 1) := by decide +kernel
theorem dX11_end_20 : decode cX11_end 20 = .ok (.iload_n 1, 1) := by decide +kernel
theorem dX11_end_21 : decode cX11_end 21 = .ok (.putfield 83, 3) := by decide +kernel
theorem dX11_end_24 : decode cX11_end 24 = .ok (.iconst 1, 1) := by decide +kernel
theorem dX11_end_25 : decode cX11_end 25 = .ok (.ireturn, 1) := by decide +kernel
def kwX11_fault : List Cond := .code yX11_fault cX11_fault 1 (some .int) :: kG
theorem hdX11_fault : yX11_fault.cls ≠ "java/lang/invoke/MethodHandle" ∧ yX11_fault.cls ≠ "java/lang/invoke/VarHandle" ∧ (parseMethodDescriptor yX11_fault.desc).map (fun d => d.parameters.length) = some 0 := by decide +kernel
theorem dX11_fault_0 : decode cX11_fault 0 = .ok (.aload_n 0, 1) := by decide +kernel
theorem dX11_fault_1 : decode cX11_fault 1 = .ok (.iconst 0, 1) := by decide +kernel
theorem dX11_fault_2 : decode cX11_fault 2 = .ok (.putfield 3, 3) := by decide +kernel
theorem dX11_fault_5 : decode cX11_fault 5 = .ok (.aload_n 0, 1) := by decide +kernel
theorem dX11_fault_6 : decode cX11_fault 6 = .ok (.getfield 30, 3) := by decide +kernel
theorem dX11_fault_9 : decode cX11_fault 9 = .ok (.ireturn, 1) := by decide +kernel
set_option maxHeartbeats 4000000 in
set_option maxRecDepth 100000 in
/-- reference: fault -/
theorem r_fault (l : Launch) (D : va_G) (cI cJ cB cC : ClassId) (h : Nat) (th : Int32) (aw : Nat) (ai : Nat) (ab : Nat) (ac : Nat) (hi : Int32) (re : Int32) (aP : Nat) (ta : Int32) (po : Int32) (en : Int32) (be : Int32) (de : Int32) (fa : Int32) (a5 : Nat) (sp : Int32) (av : Nat) (an : Nat) (ak : Nat) (ne : Int32) (aW : Nat) (aC : Nat) (ag : Nat) (aT : Nat) (aN : Nat) (aF : Nat) (sz : Nat)  : Met l yX11_fault kwX11_fault ({ frames := 0, cells := 0, slots := 0, locals := 0 } : Room) (kPre D (kT cI cJ cB cC) sz [(h, oX11 th aw ai ab ac hi re aP ta po en be de fa a5 sp av an ak ne aW aC ag aT aN aF)] [.ref h]) (va_Qi (fun (r : Int32) (_ : Unit) => F_r_fault (fa : Int32).toInt = ((r : Int32).toInt)) (fun (_ : Unit) (t : State) => kB D (kT cI cJ cB cC) (va_A [(h, oX11 th aw ai ab ac hi re aP ta po en be de fa a5 sp av an ak ne aW aC ag aT aN aF)] sz) [(h, oX11 0 aw ai ab ac hi re aP ta po en be de fa a5 sp av an ak ne aW aC ag aT aN aF)] t) (va_A [(h, oX11 th aw ai ab ac hi re aP ta po en be de fa a5 sp av an ak ne aW aC ag aT aN aF)] sz)) 0 0 (va_A [(h, oX11 th aw ai ab ac hi re aP ta po en be de fa a5 sp av an ak ne aW aC ag aT aN aF)] sz) := by
  refine Met.ofW (cc := cX11_fault) (maxL := 1) (ret := (some .int)) (by decide) rfl ?_
  intro p e s m args below meth c s₁ B hml hv
  obtain ⟨rfl, hsz, hN, hE, hP, hK, hD0⟩ := hv
  have hx := B.exec
  have hb := B.bytes
  have hr := B.returns
  have hts := fun (w : Cond) (h : w ∈ kG) => atoms_spec (ws := kwX11_fault) B.pre w (List.mem_cons_of_mem _ h)
  have hown : s.vm.findClass RX11 = some m.cls := findClass_of_methodNamed B.named
  subst hsz
  have hD := hD0.self (sz := s.heap.size)
  generalize hAe : va_A [(h, oX11 th aw ai ab ac hi re aP ta po en be de fa a5 sp av an ak ne aW aC ag aT aN aF)] s.heap.size = A at hD hE ⊢
  have hA : ∀ q : Nat, s.heap.size ≤ q → A q := fun q h => by rw [← hAe]; exact Or.inr h
  have hl := lv_entry ([.ref h]) (n := 1) (Nat.le_of_ble_eq_true rfl)
  rw [lg_entry_eq]
  generalize (lg_sl ([.ref h]) ++ List.replicate (1 - (lg_sl ([.ref h])).length) Slot.unset).toArray = ls at hl ⊢
  have hl : lv_has ls 1 [(0, .ref h)] := hl
  obtain ⟨H, hH0⟩ : ∃ H, H = s.heap := ⟨_, rfl⟩
  have hS : va_S A s.heap H [] := by rw [hH0]; exact va_S.rf
  have hP : va_P D vwCl [(h, oX11 th aw ai ab ac hi re aP ta po en be de fa a5 sp av an ak ne aW aC ag aT aN aF)] H := by rw [hH0]; exact hP
  refine kHeap hH0 ?_
  clear hH0
  refine lv_aload_n hx hb dX11_fault_0 rfl (lv_at hl 0 rfl) ?_
  refine lv_iconst (v := 0) hx hb dX11_fault_1 (by decide) ?_
  refine va_put (D := D) (ci := 10) (v := .int 0) (ty := .int) (C := RX11) (T := TX11) (N := 26) hx hb hts iG_X11 tyX11 tyX11_ok nmX11 hown hK hP hD hS 0 rfl rfl 0 (by decide) (hts _ w6_8) (fun _ h9 => h9) rfl (by decide +kernel) rfl rfl (Nat.le_of_ble_eq_true rfl) dX11_fault_2 (fun H locs hP hD hS => ?_)
  have hP : va_P D vwCl [(h, oX11 0 aw ai ab ac hi re aP ta po en be de fa a5 sp av an ak ne aW aC ag aT aN aF)] H := hP
  have hD : va_D A [(h, oX11 0 aw ai ab ac hi re aP ta po en be de fa a5 sp av an ak ne aW aC ag aT aN aF)] := hD
  refine lv_aload_n hx hb dX11_fault_5 rfl (lv_at hl 0 rfl) ?_
  refine va_get (D := D) (ci := 10) (v := .int fa) (C := RX11) (T := TX11) (N := 26) hx hb hts iG_X11 hown hK hP 0 rfl rfl 13 (by decide) (hts _ w5_9) (fun _ h9 => h9) rfl dX11_fault_6 ?_
  have hP9 := hP.sub (ws' := [(h, oX11 0 aw ai ab ac hi re aP ta po en be de fa a5 sp av an ak ne aW aC ag aT aN aF)]) [0] rfl
  have hD9 := hD.sub (ws' := [(h, oX11 0 aw ai ab ac hi re aP ta po en be de fa a5 sp av an ak ne aW aC ag aT aN aF)]) [0] (by decide) rfl
  exact W.iret (v := fa) hx hb hr (fun t ht hW => ⟨⟨fa, (), rfl, rfl, by rw [ht]; exact hP9, va_K.moved hW.alike hK, hD9⟩, hS.F ht⟩) hS.2.2 dX11_fault_9

