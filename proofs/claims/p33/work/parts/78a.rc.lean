set_option maxHeartbeats 4000000 in
set_option maxRecDepth 100000 in
/-- reference: sets -/
theorem r_sets0x (l : Launch) (D : va_G) (cI cJ cB cC : ClassId) (h : Nat) (th : Int32) (aw : Nat) (ai : Nat) (ab : Nat) (ac : Nat) (hi : Int32) (re : Int32) (aP : Nat) (ta : Int32) (po : Int32) (en : Int32) (be : Int32) (de : Int32) (fa : Int32) (a5 : Nat) (sp : Int32) (av : Nat) (an : Nat) (ak : Nat) (ne : Int32) (aW : Nat) (aC : Nat) (ag : Nat) (aT : Nat) (aN : Nat) (aF : Nat) (fw : Nat → Int32) (mm : Int32) (v : Int32) (sz : Nat) (H_mm : Rg mm 0 11) : Met l yX11_sets kwX11_sets ({ frames := 0, cells := 0, slots := 0, locals := 0 } : Room) (kPre D (kT cI cJ cB cC) sz [(h, oX11 th aw ai ab ac hi re aP ta po en be de fa a5 sp av an ak ne aW aC ag aT aN aF), (aw, .inl (cI, 2179, .inl fw))] [.ref h, .int mm, .int 0, .int v]) (va_Qv (fun (_ : Unit) => True) (fun (_ : Unit) (t : State) => kB D (kT cI cJ cB cC) (va_A [(h, oX11 th aw ai ab ac hi re aP ta po en be de fa a5 sp av an ak ne aW aC ag aT aN aF), (aw, .inl (cI, 2179, .inl fw))] sz) [(h, oX11 th aw ai ab ac hi re aP ta po en be de fa a5 sp av an ak ne aW aC ag aT aN aF), (aw, .inl (cI, 2179, .inl (upd fw (61 + 7 * cN mm) v)))] t) (va_A [(h, oX11 th aw ai ab ac hi re aP ta po en be de fa a5 sp av an ak ne aW aC ag aT aN aF), (aw, .inl (cI, 2179, .inl fw))] sz)) 0 0 (va_A [(h, oX11 th aw ai ab ac hi re aP ta po en be de fa a5 sp av an ak ne aW aC ag aT aN aF), (aw, .inl (cI, 2179, .inl fw))] sz) := by
  refine Met.ofW (cc := cX11_sets) (maxL := 4) (ret := none) (by decide) rfl ?_
  intro p e s m args below meth c s₁ B hml hv
  obtain ⟨rfl, hsz, hN, hE, hP, hK, hD0⟩ := hv
  have hx := B.exec
  have hb := B.bytes
  have hr := B.returns
  have hts := fun (w : Cond) (h : w ∈ kG) => atoms_spec (ws := kwX11_sets) B.pre w (List.mem_cons_of_mem _ h)
  have hown : s.vm.findClass RX11 = some m.cls := findClass_of_methodNamed B.named
  subst hsz
  have hD := hD0.self (sz := s.heap.size)
  generalize hAe : va_A [(h, oX11 th aw ai ab ac hi re aP ta po en be de fa a5 sp av an ak ne aW aC ag aT aN aF), (aw, .inl (cI, 2179, .inl fw))] s.heap.size = A at hD hE ⊢
  have hA : ∀ q : Nat, s.heap.size ≤ q → A q := fun q h => by rw [← hAe]; exact Or.inr h
  have hl := lv_entry ([.ref h, .int mm, .int 0, .int v]) (n := 4) (Nat.le_of_ble_eq_true rfl)
  rw [lg_entry_eq]
  generalize (lg_sl ([.ref h, .int mm, .int 0, .int v]) ++ List.replicate (4 - (lg_sl ([.ref h, .int mm, .int 0, .int v])).length) Slot.unset).toArray = ls at hl ⊢
  have hl : lv_has ls 4 [(0, .ref h), (1, .int mm), (2, .int 0), (3, .int v)] := hl
  obtain ⟨H, hH0⟩ : ∃ H, H = s.heap := ⟨_, rfl⟩
  have hS : va_S A s.heap H [] := by rw [hH0]; exact va_S.rf
  have hP : va_P D vwCl [(h, oX11 th aw ai ab ac hi re aP ta po en be de fa a5 sp av an ak ne aW aC ag aT aN aF), (aw, .inl (cI, 2179, .inl fw))] H := by rw [hH0]; exact hP
  refine kHeap hH0 ?_
  clear hH0
  refine lv_aload_n hx hb dX11_sets_0 rfl (lv_at hl 0 rfl) ?_
  refine va_get (D := D) (ci := 10) (v := .ref aw) (C := RX11) (T := TX11) (N := 26) hx hb hts iG_X11 hown hK hP 0 rfl rfl 1 (by decide) (hts _ w5_3) (fun _ h9 => h9) rfl dX11_sets_1 ?_
  refine lv_bipush (v := 61) hx hb dX11_sets_4 (by decide) ?_
  refine lv_bipush (v := 7) hx hb dX11_sets_6 (by decide) ?_
  refine lv_iload_n hx hb dX11_sets_8 rfl (lv_at hl 1 rfl) ?_
  refine lv_imul hx hb dX11_sets_9 ?_
  refine lv_topi (fun x1 ex1 => ?_)
  have tx1 : x1.toInt = 7 * mm.toInt := ti_mul ex1 (rg_lit (n := 7) (by decide)) H_mm (by decide) (by decide) rfl
  have k2 : Rg x1 0 77 := rg_mul ex1 (rg_lit (n := 7) (by decide)) H_mm (by decide)
  refine lv_iadd hx hb dX11_sets_10 ?_
  refine lv_topi (fun x3 ex3 => ?_)
  have tx3 : x3.toInt = 61 + x1.toInt := ti_add ex3 (rg_lit (n := 61) (by decide)) k2 (by decide) (by decide) rfl
  have k4 : Rg x3 61 138 := rg_add ex3 (rg_lit (n := 61) (by decide)) k2 (by decide)
  refine lv_iload_n hx hb dX11_sets_11 rfl (lv_at hl 2 rfl) ?_
  refine lv_iadd hx hb dX11_sets_12 ?_
  refine lv_topi (fun x5 ex5 => ?_)
  have tx5 : x5.toInt = x3.toInt + 0 := ti_add ex5 k4 (rg_lit (n := 0) (by decide)) (by decide) rfl (by decide)
  have k6 : Rg x5 61 138 := rg_add ex5 k4 (rg_lit (n := 0) (by decide)) (by decide)
  refine lv_iload_n hx hb dX11_sets_13 rfl (lv_at hl 3 rfl) ?_
  refine va_iast hx hb hK hP hD hS 1 0 rfl rfl (rg_in k6 (by decide)) dX11_sets_14 (fun H locs hP hD hS => ?_)
  have hP : va_P D vwCl [(h, oX11 th aw ai ab ac hi re aP ta po en be de fa a5 sp av an ak ne aW aC ag aT aN aF), (aw, .inl (cI, 2179, .inl (upd fw x5.toNatClampNeg v)))] H := hP
  have hD : va_D A [(h, oX11 th aw ai ab ac hi re aP ta po en be de fa a5 sp av an ak ne aW aC ag aT aN aF), (aw, .inl (cI, 2179, .inl (upd fw x5.toNatClampNeg v)))] := hD
  have k7 : x5.toNatClampNeg = 61 + 7 * cN mm := cl_of k6 (by decide) (by (try simp only [cN]); have q9 := H_mm; unfold Rg at *; omega)
  rw [k7] at hP hD
  have hP9 := hP.sub (ws' := [(h, oX11 th aw ai ab ac hi re aP ta po en be de fa a5 sp av an ak ne aW aC ag aT aN aF), (aw, .inl (cI, 2179, .inl (upd fw (61 + 7 * cN mm) v)))]) [0, 1] rfl
  have hD9 := hD.sub (ws' := [(h, oX11 th aw ai ab ac hi re aP ta po en be de fa a5 sp av an ak ne aW aC ag aT aN aF), (aw, .inl (cI, 2179, .inl (upd fw (61 + 7 * cN mm) v)))]) [0, 1] (by decide) rfl
  exact W.vret hx hb hr (fun t ht hW => ⟨⟨(), rfl, trivial, by rw [ht]; exact hP9, va_K.moved hW.alike hK, hD9⟩, hS.F ht⟩) hS.2.2 dX11_sets_15

set_option maxHeartbeats 4000000 in
set_option maxRecDepth 100000 in
/-- reference: sets -/
theorem r_sets1x (l : Launch) (D : va_G) (cI cJ cB cC : ClassId) (h : Nat) (th : Int32) (aw : Nat) (ai : Nat) (ab : Nat) (ac : Nat) (hi : Int32) (re : Int32) (aP : Nat) (ta : Int32) (po : Int32) (en : Int32) (be : Int32) (de : Int32) (fa : Int32) (a5 : Nat) (sp : Int32) (av : Nat) (an : Nat) (ak : Nat) (ne : Int32) (aW : Nat) (aC : Nat) (ag : Nat) (aT : Nat) (aN : Nat) (aF : Nat) (fw : Nat → Int32) (mm : Int32) (v : Int32) (sz : Nat) (H_mm : Rg mm 0 11) : Met l yX11_sets kwX11_sets ({ frames := 0, cells := 0, slots := 0, locals := 0 } : Room) (kPre D (kT cI cJ cB cC) sz [(h, oX11 th aw ai ab ac hi re aP ta po en be de fa a5 sp av an ak ne aW aC ag aT aN aF), (aw, .inl (cI, 2179, .inl fw))] [.ref h, .int mm, .int 1, .int v]) (va_Qv (fun (_ : Unit) => True) (fun (_ : Unit) (t : State) => kB D (kT cI cJ cB cC) (va_A [(h, oX11 th aw ai ab ac hi re aP ta po en be de fa a5 sp av an ak ne aW aC ag aT aN aF), (aw, .inl (cI, 2179, .inl fw))] sz) [(h, oX11 th aw ai ab ac hi re aP ta po en be de fa a5 sp av an ak ne aW aC ag aT aN aF), (aw, .inl (cI, 2179, .inl (upd fw (62 + 7 * cN mm) v)))] t) (va_A [(h, oX11 th aw ai ab ac hi re aP ta po en be de fa a5 sp av an ak ne aW aC ag aT aN aF), (aw, .inl (cI, 2179, .inl fw))] sz)) 0 0 (va_A [(h, oX11 th aw ai ab ac hi re aP ta po en be de fa a5 sp av an ak ne aW aC ag aT aN aF), (aw, .inl (cI, 2179, .inl fw))] sz) := by
  refine Met.ofW (cc := cX11_sets) (maxL := 4) (ret := none) (by decide) rfl ?_
  intro p e s m args below meth c s₁ B hml hv
  obtain ⟨rfl, hsz, hN, hE, hP, hK, hD0⟩ := hv
  have hx := B.exec
  have hb := B.bytes
  have hr := B.returns
  have hts := fun (w : Cond) (h : w ∈ kG) => atoms_spec (ws := kwX11_sets) B.pre w (List.mem_cons_of_mem _ h)
  have hown : s.vm.findClass RX11 = some m.cls := findClass_of_methodNamed B.named
  subst hsz
  have hD := hD0.self (sz := s.heap.size)
  generalize hAe : va_A [(h, oX11 th aw ai ab ac hi re aP ta po en be de fa a5 sp av an ak ne aW aC ag aT aN aF), (aw, .inl (cI, 2179, .inl fw))] s.heap.size = A at hD hE ⊢
  have hA : ∀ q : Nat, s.heap.size ≤ q → A q := fun q h => by rw [← hAe]; exact Or.inr h
  have hl := lv_entry ([.ref h, .int mm, .int 1, .int v]) (n := 4) (Nat.le_of_ble_eq_true rfl)
  rw [lg_entry_eq]
  generalize (lg_sl ([.ref h, .int mm, .int 1, .int v]) ++ List.replicate (4 - (lg_sl ([.ref h, .int mm, .int 1, .int v])).length) Slot.unset).toArray = ls at hl ⊢
  have hl : lv_has ls 4 [(0, .ref h), (1, .int mm), (2, .int 1), (3, .int v)] := hl
  obtain ⟨H, hH0⟩ : ∃ H, H = s.heap := ⟨_, rfl⟩
  have hS : va_S A s.heap H [] := by rw [hH0]; exact va_S.rf
  have hP : va_P D vwCl [(h, oX11 th aw ai ab ac hi re aP ta po en be de fa a5 sp av an ak ne aW aC ag aT aN aF), (aw, .inl (cI, 2179, .inl fw))] H := by rw [hH0]; exact hP
  refine kHeap hH0 ?_
  clear hH0
  refine lv_aload_n hx hb dX11_sets_0 rfl (lv_at hl 0 rfl) ?_
  refine va_get (D := D) (ci := 10) (v := .ref aw) (C := RX11) (T := TX11) (N := 26) hx hb hts iG_X11 hown hK hP 0 rfl rfl 1 (by decide) (hts _ w5_3) (fun _ h9 => h9) rfl dX11_sets_1 ?_
  refine lv_bipush (v := 61) hx hb dX11_sets_4 (by decide) ?_
  refine lv_bipush (v := 7) hx hb dX11_sets_6 (by decide) ?_
  refine lv_iload_n hx hb dX11_sets_8 rfl (lv_at hl 1 rfl) ?_
  refine lv_imul hx hb dX11_sets_9 ?_
  refine lv_topi (fun x1 ex1 => ?_)
  have tx1 : x1.toInt = 7 * mm.toInt := ti_mul ex1 (rg_lit (n := 7) (by decide)) H_mm (by decide) (by decide) rfl
  have k2 : Rg x1 0 77 := rg_mul ex1 (rg_lit (n := 7) (by decide)) H_mm (by decide)
  refine lv_iadd hx hb dX11_sets_10 ?_
  refine lv_topi (fun x3 ex3 => ?_)
  have tx3 : x3.toInt = 61 + x1.toInt := ti_add ex3 (rg_lit (n := 61) (by decide)) k2 (by decide) (by decide) rfl
  have k4 : Rg x3 61 138 := rg_add ex3 (rg_lit (n := 61) (by decide)) k2 (by decide)
  refine lv_iload_n hx hb dX11_sets_11 rfl (lv_at hl 2 rfl) ?_
  refine lv_iadd hx hb dX11_sets_12 ?_
  refine lv_topi (fun x5 ex5 => ?_)
  have tx5 : x5.toInt = x3.toInt + 1 := ti_add ex5 k4 (rg_lit (n := 1) (by decide)) (by decide) rfl (by decide)
  have k6 : Rg x5 62 139 := rg_add ex5 k4 (rg_lit (n := 1) (by decide)) (by decide)
  refine lv_iload_n hx hb dX11_sets_13 rfl (lv_at hl 3 rfl) ?_
  refine va_iast hx hb hK hP hD hS 1 0 rfl rfl (rg_in k6 (by decide)) dX11_sets_14 (fun H locs hP hD hS => ?_)
  have hP : va_P D vwCl [(h, oX11 th aw ai ab ac hi re aP ta po en be de fa a5 sp av an ak ne aW aC ag aT aN aF), (aw, .inl (cI, 2179, .inl (upd fw x5.toNatClampNeg v)))] H := hP
  have hD : va_D A [(h, oX11 th aw ai ab ac hi re aP ta po en be de fa a5 sp av an ak ne aW aC ag aT aN aF), (aw, .inl (cI, 2179, .inl (upd fw x5.toNatClampNeg v)))] := hD
  have k7 : x5.toNatClampNeg = 62 + 7 * cN mm := cl_of k6 (by decide) (by (try simp only [cN]); have q9 := H_mm; unfold Rg at *; omega)
  rw [k7] at hP hD
  have hP9 := hP.sub (ws' := [(h, oX11 th aw ai ab ac hi re aP ta po en be de fa a5 sp av an ak ne aW aC ag aT aN aF), (aw, .inl (cI, 2179, .inl (upd fw (62 + 7 * cN mm) v)))]) [0, 1] rfl
  have hD9 := hD.sub (ws' := [(h, oX11 th aw ai ab ac hi re aP ta po en be de fa a5 sp av an ak ne aW aC ag aT aN aF), (aw, .inl (cI, 2179, .inl (upd fw (62 + 7 * cN mm) v)))]) [0, 1] (by decide) rfl
  exact W.vret hx hb hr (fun t ht hW => ⟨⟨(), rfl, trivial, by rw [ht]; exact hP9, va_K.moved hW.alike hK, hD9⟩, hS.F ht⟩) hS.2.2 dX11_sets_15

set_option maxHeartbeats 4000000 in
set_option maxRecDepth 100000 in
/-- reference: sets -/
theorem r_sets2x (l : Launch) (D : va_G) (cI cJ cB cC : ClassId) (h : Nat) (th : Int32) (aw : Nat) (ai : Nat) (ab : Nat) (ac : Nat) (hi : Int32) (re : Int32) (aP : Nat) (ta : Int32) (po : Int32) (en : Int32) (be : Int32) (de : Int32) (fa : Int32) (a5 : Nat) (sp : Int32) (av : Nat) (an : Nat) (ak : Nat) (ne : Int32) (aW : Nat) (aC : Nat) (ag : Nat) (aT : Nat) (aN : Nat) (aF : Nat) (fw : Nat → Int32) (mm : Int32) (v : Int32) (sz : Nat) (H_mm : Rg mm 0 11) : Met l yX11_sets kwX11_sets ({ frames := 0, cells := 0, slots := 0, locals := 0 } : Room) (kPre D (kT cI cJ cB cC) sz [(h, oX11 th aw ai ab ac hi re aP ta po en be de fa a5 sp av an ak ne aW aC ag aT aN aF), (aw, .inl (cI, 2179, .inl fw))] [.ref h, .int mm, .int 2, .int v]) (va_Qv (fun (_ : Unit) => True) (fun (_ : Unit) (t : State) => kB D (kT cI cJ cB cC) (va_A [(h, oX11 th aw ai ab ac hi re aP ta po en be de fa a5 sp av an ak ne aW aC ag aT aN aF), (aw, .inl (cI, 2179, .inl fw))] sz) [(h, oX11 th aw ai ab ac hi re aP ta po en be de fa a5 sp av an ak ne aW aC ag aT aN aF), (aw, .inl (cI, 2179, .inl (upd fw (63 + 7 * cN mm) v)))] t) (va_A [(h, oX11 th aw ai ab ac hi re aP ta po en be de fa a5 sp av an ak ne aW aC ag aT aN aF), (aw, .inl (cI, 2179, .inl fw))] sz)) 0 0 (va_A [(h, oX11 th aw ai ab ac hi re aP ta po en be de fa a5 sp av an ak ne aW aC ag aT aN aF), (aw, .inl (cI, 2179, .inl fw))] sz) := by
  refine Met.ofW (cc := cX11_sets) (maxL := 4) (ret := none) (by decide) rfl ?_
  intro p e s m args below meth c s₁ B hml hv
  obtain ⟨rfl, hsz, hN, hE, hP, hK, hD0⟩ := hv
  have hx := B.exec
  have hb := B.bytes
  have hr := B.returns
  have hts := fun (w : Cond) (h : w ∈ kG) => atoms_spec (ws := kwX11_sets) B.pre w (List.mem_cons_of_mem _ h)
  have hown : s.vm.findClass RX11 = some m.cls := findClass_of_methodNamed B.named
  subst hsz
  have hD := hD0.self (sz := s.heap.size)
  generalize hAe : va_A [(h, oX11 th aw ai ab ac hi re aP ta po en be de fa a5 sp av an ak ne aW aC ag aT aN aF), (aw, .inl (cI, 2179, .inl fw))] s.heap.size = A at hD hE ⊢
  have hA : ∀ q : Nat, s.heap.size ≤ q → A q := fun q h => by rw [← hAe]; exact Or.inr h
  have hl := lv_entry ([.ref h, .int mm, .int 2, .int v]) (n := 4) (Nat.le_of_ble_eq_true rfl)
  rw [lg_entry_eq]
  generalize (lg_sl ([.ref h, .int mm, .int 2, .int v]) ++ List.replicate (4 - (lg_sl ([.ref h, .int mm, .int 2, .int v])).length) Slot.unset).toArray = ls at hl ⊢
  have hl : lv_has ls 4 [(0, .ref h), (1, .int mm), (2, .int 2), (3, .int v)] := hl
  obtain ⟨H, hH0⟩ : ∃ H, H = s.heap := ⟨_, rfl⟩
  have hS : va_S A s.heap H [] := by rw [hH0]; exact va_S.rf
  have hP : va_P D vwCl [(h, oX11 th aw ai ab ac hi re aP ta po en be de fa a5 sp av an ak ne aW aC ag aT aN aF), (aw, .inl (cI, 2179, .inl fw))] H := by rw [hH0]; exact hP
  refine kHeap hH0 ?_
  clear hH0
  refine lv_aload_n hx hb dX11_sets_0 rfl (lv_at hl 0 rfl) ?_
  refine va_get (D := D) (ci := 10) (v := .ref aw) (C := RX11) (T := TX11) (N := 26) hx hb hts iG_X11 hown hK hP 0 rfl rfl 1 (by decide) (hts _ w5_3) (fun _ h9 => h9) rfl dX11_sets_1 ?_
  refine lv_bipush (v := 61) hx hb dX11_sets_4 (by decide) ?_
  refine lv_bipush (v := 7) hx hb dX11_sets_6 (by decide) ?_
  refine lv_iload_n hx hb dX11_sets_8 rfl (lv_at hl 1 rfl) ?_
  refine lv_imul hx hb dX11_sets_9 ?_
  refine lv_topi (fun x1 ex1 => ?_)
  have tx1 : x1.toInt = 7 * mm.toInt := ti_mul ex1 (rg_lit (n := 7) (by decide)) H_mm (by decide) (by decide) rfl
  have k2 : Rg x1 0 77 := rg_mul ex1 (rg_lit (n := 7) (by decide)) H_mm (by decide)
  refine lv_iadd hx hb dX11_sets_10 ?_
  refine lv_topi (fun x3 ex3 => ?_)
  have tx3 : x3.toInt = 61 + x1.toInt := ti_add ex3 (rg_lit (n := 61) (by decide)) k2 (by decide) (by decide) rfl
  have k4 : Rg x3 61 138 := rg_add ex3 (rg_lit (n := 61) (by decide)) k2 (by decide)
  refine lv_iload_n hx hb dX11_sets_11 rfl (lv_at hl 2 rfl) ?_
  refine lv_iadd hx hb dX11_sets_12 ?_
  refine lv_topi (fun x5 ex5 => ?_)
  have tx5 : x5.toInt = x3.toInt + 2 := ti_add ex5 k4 (rg_lit (n := 2) (by decide)) (by decide) rfl (by decide)
  have k6 : Rg x5 63 140 := rg_add ex5 k4 (rg_lit (n := 2) (by decide)) (by decide)
  refine lv_iload_n hx hb dX11_sets_13 rfl (lv_at hl 3 rfl) ?_
  refine va_iast hx hb hK hP hD hS 1 0 rfl rfl (rg_in k6 (by decide)) dX11_sets_14 (fun H locs hP hD hS => ?_)
  have hP : va_P D vwCl [(h, oX11 th aw ai ab ac hi re aP ta po en be de fa a5 sp av an ak ne aW aC ag aT aN aF), (aw, .inl (cI, 2179, .inl (upd fw x5.toNatClampNeg v)))] H := hP
  have hD : va_D A [(h, oX11 th aw ai ab ac hi re aP ta po en be de fa a5 sp av an ak ne aW aC ag aT aN aF), (aw, .inl (cI, 2179, .inl (upd fw x5.toNatClampNeg v)))] := hD
  have k7 : x5.toNatClampNeg = 63 + 7 * cN mm := cl_of k6 (by decide) (by (try simp only [cN]); have q9 := H_mm; unfold Rg at *; omega)
  rw [k7] at hP hD
  have hP9 := hP.sub (ws' := [(h, oX11 th aw ai ab ac hi re aP ta po en be de fa a5 sp av an ak ne aW aC ag aT aN aF), (aw, .inl (cI, 2179, .inl (upd fw (63 + 7 * cN mm) v)))]) [0, 1] rfl
  have hD9 := hD.sub (ws' := [(h, oX11 th aw ai ab ac hi re aP ta po en be de fa a5 sp av an ak ne aW aC ag aT aN aF), (aw, .inl (cI, 2179, .inl (upd fw (63 + 7 * cN mm) v)))]) [0, 1] (by decide) rfl
  exact W.vret hx hb hr (fun t ht hW => ⟨⟨(), rfl, trivial, by rw [ht]; exact hP9, va_K.moved hW.alike hK, hD9⟩, hS.F ht⟩) hS.2.2 dX11_sets_15

set_option maxHeartbeats 4000000 in
set_option maxRecDepth 100000 in
/-- reference: sets -/
theorem r_sets3x (l : Launch) (D : va_G) (cI cJ cB cC : ClassId) (h : Nat) (th : Int32) (aw : Nat) (ai : Nat) (ab : Nat) (ac : Nat) (hi : Int32) (re : Int32) (aP : Nat) (ta : Int32) (po : Int32) (en : Int32) (be : Int32) (de : Int32) (fa : Int32) (a5 : Nat) (sp : Int32) (av : Nat) (an : Nat) (ak : Nat) (ne : Int32) (aW : Nat) (aC : Nat) (ag : Nat) (aT : Nat) (aN : Nat) (aF : Nat) (fw : Nat → Int32) (mm : Int32) (v : Int32) (sz : Nat) (H_mm : Rg mm 0 11) : Met l yX11_sets kwX11_sets ({ frames := 0, cells := 0, slots := 0, locals := 0 } : Room) (kPre D (kT cI cJ cB cC) sz [(h, oX11 th aw ai ab ac hi re aP ta po en be de fa a5 sp av an ak ne aW aC ag aT aN aF), (aw, .inl (cI, 2179, .inl fw))] [.ref h, .int mm, .int 3, .int v]) (va_Qv (fun (_ : Unit) => True) (fun (_ : Unit) (t : State) => kB D (kT cI cJ cB cC) (va_A [(h, oX11 th aw ai ab ac hi re aP ta po en be de fa a5 sp av an ak ne aW aC ag aT aN aF), (aw, .inl (cI, 2179, .inl fw))] sz) [(h, oX11 th aw ai ab ac hi re aP ta po en be de fa a5 sp av an ak ne aW aC ag aT aN aF), (aw, .inl (cI, 2179, .inl (upd fw (64 + 7 * cN mm) v)))] t) (va_A [(h, oX11 th aw ai ab ac hi re aP ta po en be de fa a5 sp av an ak ne aW aC ag aT aN aF), (aw, .inl (cI, 2179, .inl fw))] sz)) 0 0 (va_A [(h, oX11 th aw ai ab ac hi re aP ta po en be de fa a5 sp av an ak ne aW aC ag aT aN aF), (aw, .inl (cI, 2179, .inl fw))] sz) := by
  refine Met.ofW (cc := cX11_sets) (maxL := 4) (ret := none) (by decide) rfl ?_
  intro p e s m args below meth c s₁ B hml hv
  obtain ⟨rfl, hsz, hN, hE, hP, hK, hD0⟩ := hv
  have hx := B.exec
  have hb := B.bytes
  have hr := B.returns
  have hts := fun (w : Cond) (h : w ∈ kG) => atoms_spec (ws := kwX11_sets) B.pre w (List.mem_cons_of_mem _ h)
  have hown : s.vm.findClass RX11 = some m.cls := findClass_of_methodNamed B.named
  subst hsz
  have hD := hD0.self (sz := s.heap.size)
  generalize hAe : va_A [(h, oX11 th aw ai ab ac hi re aP ta po en be de fa a5 sp av an ak ne aW aC ag aT aN aF), (aw, .inl (cI, 2179, .inl fw))] s.heap.size = A at hD hE ⊢
  have hA : ∀ q : Nat, s.heap.size ≤ q → A q := fun q h => by rw [← hAe]; exact Or.inr h
  have hl := lv_entry ([.ref h, .int mm, .int 3, .int v]) (n := 4) (Nat.le_of_ble_eq_true rfl)
  rw [lg_entry_eq]
  generalize (lg_sl ([.ref h, .int mm, .int 3, .int v]) ++ List.replicate (4 - (lg_sl ([.ref h, .int mm, .int 3, .int v])).length) Slot.unset).toArray = ls at hl ⊢
  have hl : lv_has ls 4 [(0, .ref h), (1, .int mm), (2, .int 3), (3, .int v)] := hl
  obtain ⟨H, hH0⟩ : ∃ H, H = s.heap := ⟨_, rfl⟩
  have hS : va_S A s.heap H [] := by rw [hH0]; exact va_S.rf
  have hP : va_P D vwCl [(h, oX11 th aw ai ab ac hi re aP ta po en be de fa a5 sp av an ak ne aW aC ag aT aN aF), (aw, .inl (cI, 2179, .inl fw))] H := by rw [hH0]; exact hP
  refine kHeap hH0 ?_
  clear hH0
  refine lv_aload_n hx hb dX11_sets_0 rfl (lv_at hl 0 rfl) ?_
  refine va_get (D := D) (ci := 10) (v := .ref aw) (C := RX11) (T := TX11) (N := 26) hx hb hts iG_X11 hown hK hP 0 rfl rfl 1 (by decide) (hts _ w5_3) (fun _ h9 => h9) rfl dX11_sets_1 ?_
  refine lv_bipush (v := 61) hx hb dX11_sets_4 (by decide) ?_
  refine lv_bipush (v := 7) hx hb dX11_sets_6 (by decide) ?_
  refine lv_iload_n hx hb dX11_sets_8 rfl (lv_at hl 1 rfl) ?_
  refine lv_imul hx hb dX11_sets_9 ?_
  refine lv_topi (fun x1 ex1 => ?_)
  have tx1 : x1.toInt = 7 * mm.toInt := ti_mul ex1 (rg_lit (n := 7) (by decide)) H_mm (by decide) (by decide) rfl
  have k2 : Rg x1 0 77 := rg_mul ex1 (rg_lit (n := 7) (by decide)) H_mm (by decide)
  refine lv_iadd hx hb dX11_sets_10 ?_
  refine lv_topi (fun x3 ex3 => ?_)
  have tx3 : x3.toInt = 61 + x1.toInt := ti_add ex3 (rg_lit (n := 61) (by decide)) k2 (by decide) (by decide) rfl
  have k4 : Rg x3 61 138 := rg_add ex3 (rg_lit (n := 61) (by decide)) k2 (by decide)
  refine lv_iload_n hx hb dX11_sets_11 rfl (lv_at hl 2 rfl) ?_
  refine lv_iadd hx hb dX11_sets_12 ?_
  refine lv_topi (fun x5 ex5 => ?_)
  have tx5 : x5.toInt = x3.toInt + 3 := ti_add ex5 k4 (rg_lit (n := 3) (by decide)) (by decide) rfl (by decide)
  have k6 : Rg x5 64 141 := rg_add ex5 k4 (rg_lit (n := 3) (by decide)) (by decide)
  refine lv_iload_n hx hb dX11_sets_13 rfl (lv_at hl 3 rfl) ?_
  refine va_iast hx hb hK hP hD hS 1 0 rfl rfl (rg_in k6 (by decide)) dX11_sets_14 (fun H locs hP hD hS => ?_)
  have hP : va_P D vwCl [(h, oX11 th aw ai ab ac hi re aP ta po en be de fa a5 sp av an ak ne aW aC ag aT aN aF), (aw, .inl (cI, 2179, .inl (upd fw x5.toNatClampNeg v)))] H := hP
  have hD : va_D A [(h, oX11 th aw ai ab ac hi re aP ta po en be de fa a5 sp av an ak ne aW aC ag aT aN aF), (aw, .inl (cI, 2179, .inl (upd fw x5.toNatClampNeg v)))] := hD
  have k7 : x5.toNatClampNeg = 64 + 7 * cN mm := cl_of k6 (by decide) (by (try simp only [cN]); have q9 := H_mm; unfold Rg at *; omega)
  rw [k7] at hP hD
  have hP9 := hP.sub (ws' := [(h, oX11 th aw ai ab ac hi re aP ta po en be de fa a5 sp av an ak ne aW aC ag aT aN aF), (aw, .inl (cI, 2179, .inl (upd fw (64 + 7 * cN mm) v)))]) [0, 1] rfl
  have hD9 := hD.sub (ws' := [(h, oX11 th aw ai ab ac hi re aP ta po en be de fa a5 sp av an ak ne aW aC ag aT aN aF), (aw, .inl (cI, 2179, .inl (upd fw (64 + 7 * cN mm) v)))]) [0, 1] (by decide) rfl
  exact W.vret hx hb hr (fun t ht hW => ⟨⟨(), rfl, trivial, by rw [ht]; exact hP9, va_K.moved hW.alike hK, hD9⟩, hS.F ht⟩) hS.2.2 dX11_sets_15

set_option maxHeartbeats 4000000 in
set_option maxRecDepth 100000 in
/-- reference: sets -/
theorem r_sets5x (l : Launch) (D : va_G) (cI cJ cB cC : ClassId) (h : Nat) (th : Int32) (aw : Nat) (ai : Nat) (ab : Nat) (ac : Nat) (hi : Int32) (re : Int32) (aP : Nat) (ta : Int32) (po : Int32) (en : Int32) (be : Int32) (de : Int32) (fa : Int32) (a5 : Nat) (sp : Int32) (av : Nat) (an : Nat) (ak : Nat) (ne : Int32) (aW : Nat) (aC : Nat) (ag : Nat) (aT : Nat) (aN : Nat) (aF : Nat) (fw : Nat → Int32) (mm : Int32) (v : Int32) (sz : Nat) (H_mm : Rg mm 0 11) : Met l yX11_sets kwX11_sets ({ frames := 0, cells := 0, slots := 0, locals := 0 } : Room) (kPre D (kT cI cJ cB cC) sz [(h, oX11 th aw ai ab ac hi re aP ta po en be de fa a5 sp av an ak ne aW aC ag aT aN aF), (aw, .inl (cI, 2179, .inl fw))] [.ref h, .int mm, .int 5, .int v]) (va_Qv (fun (_ : Unit) => True) (fun (_ : Unit) (t : State) => kB D (kT cI cJ cB cC) (va_A [(h, oX11 th aw ai ab ac hi re aP ta po en be de fa a5 sp av an ak ne aW aC ag aT aN aF), (aw, .inl (cI, 2179, .inl fw))] sz) [(h, oX11 th aw ai ab ac hi re aP ta po en be de fa a5 sp av an ak ne aW aC ag aT aN aF), (aw, .inl (cI, 2179, .inl (upd fw (66 + 7 * cN mm) v)))] t) (va_A [(h, oX11 th aw ai ab ac hi re aP ta po en be de fa a5 sp av an ak ne aW aC ag aT aN aF), (aw, .inl (cI, 2179, .inl fw))] sz)) 0 0 (va_A [(h, oX11 th aw ai ab ac hi re aP ta po en be de fa a5 sp av an ak ne aW aC ag aT aN aF), (aw, .inl (cI, 2179, .inl fw))] sz) := by
  refine Met.ofW (cc := cX11_sets) (maxL := 4) (ret := none) (by decide) rfl ?_
  intro p e s m args below meth c s₁ B hml hv
  obtain ⟨rfl, hsz, hN, hE, hP, hK, hD0⟩ := hv
  have hx := B.exec
  have hb := B.bytes
  have hr := B.returns
  have hts := fun (w : Cond) (h : w ∈ kG) => atoms_spec (ws := kwX11_sets) B.pre w (List.mem_cons_of_mem _ h)
  have hown : s.vm.findClass RX11 = some m.cls := findClass_of_methodNamed B.named
  subst hsz
  have hD := hD0.self (sz := s.heap.size)
  generalize hAe : va_A [(h, oX11 th aw ai ab ac hi re aP ta po en be de fa a5 sp av an ak ne aW aC ag aT aN aF), (aw, .inl (cI, 2179, .inl fw))] s.heap.size = A at hD hE ⊢
  have hA : ∀ q : Nat, s.heap.size ≤ q → A q := fun q h => by rw [← hAe]; exact Or.inr h
  have hl := lv_entry ([.ref h, .int mm, .int 5, .int v]) (n := 4) (Nat.le_of_ble_eq_true rfl)
  rw [lg_entry_eq]
  generalize (lg_sl ([.ref h, .int mm, .int 5, .int v]) ++ List.replicate (4 - (lg_sl ([.ref h, .int mm, .int 5, .int v])).length) Slot.unset).toArray = ls at hl ⊢
  have hl : lv_has ls 4 [(0, .ref h), (1, .int mm), (2, .int 5), (3, .int v)] := hl
  obtain ⟨H, hH0⟩ : ∃ H, H = s.heap := ⟨_, rfl⟩
  have hS : va_S A s.heap H [] := by rw [hH0]; exact va_S.rf
  have hP : va_P D vwCl [(h, oX11 th aw ai ab ac hi re aP ta po en be de fa a5 sp av an ak ne aW aC ag aT aN aF), (aw, .inl (cI, 2179, .inl fw))] H := by rw [hH0]; exact hP
  refine kHeap hH0 ?_
  clear hH0
  refine lv_aload_n hx hb dX11_sets_0 rfl (lv_at hl 0 rfl) ?_
  refine va_get (D := D) (ci := 10) (v := .ref aw) (C := RX11) (T := TX11) (N := 26) hx hb hts iG_X11 hown hK hP 0 rfl rfl 1 (by decide) (hts _ w5_3) (fun _ h9 => h9) rfl dX11_sets_1 ?_
  refine lv_bipush (v := 61) hx hb dX11_sets_4 (by decide) ?_
  refine lv_bipush (v := 7) hx hb dX11_sets_6 (by decide) ?_
  refine lv_iload_n hx hb dX11_sets_8 rfl (lv_at hl 1 rfl) ?_
  refine lv_imul hx hb dX11_sets_9 ?_
  refine lv_topi (fun x1 ex1 => ?_)
  have tx1 : x1.toInt = 7 * mm.toInt := ti_mul ex1 (rg_lit (n := 7) (by decide)) H_mm (by decide) (by decide) rfl
  have k2 : Rg x1 0 77 := rg_mul ex1 (rg_lit (n := 7) (by decide)) H_mm (by decide)
  refine lv_iadd hx hb dX11_sets_10 ?_
  refine lv_topi (fun x3 ex3 => ?_)
  have tx3 : x3.toInt = 61 + x1.toInt := ti_add ex3 (rg_lit (n := 61) (by decide)) k2 (by decide) (by decide) rfl
  have k4 : Rg x3 61 138 := rg_add ex3 (rg_lit (n := 61) (by decide)) k2 (by decide)
  refine lv_iload_n hx hb dX11_sets_11 rfl (lv_at hl 2 rfl) ?_
  refine lv_iadd hx hb dX11_sets_12 ?_
  refine lv_topi (fun x5 ex5 => ?_)
  have tx5 : x5.toInt = x3.toInt + 5 := ti_add ex5 k4 (rg_lit (n := 5) (by decide)) (by decide) rfl (by decide)
  have k6 : Rg x5 66 143 := rg_add ex5 k4 (rg_lit (n := 5) (by decide)) (by decide)
  refine lv_iload_n hx hb dX11_sets_13 rfl (lv_at hl 3 rfl) ?_
  refine va_iast hx hb hK hP hD hS 1 0 rfl rfl (rg_in k6 (by decide)) dX11_sets_14 (fun H locs hP hD hS => ?_)
  have hP : va_P D vwCl [(h, oX11 th aw ai ab ac hi re aP ta po en be de fa a5 sp av an ak ne aW aC ag aT aN aF), (aw, .inl (cI, 2179, .inl (upd fw x5.toNatClampNeg v)))] H := hP
  have hD : va_D A [(h, oX11 th aw ai ab ac hi re aP ta po en be de fa a5 sp av an ak ne aW aC ag aT aN aF), (aw, .inl (cI, 2179, .inl (upd fw x5.toNatClampNeg v)))] := hD
  have k7 : x5.toNatClampNeg = 66 + 7 * cN mm := cl_of k6 (by decide) (by (try simp only [cN]); have q9 := H_mm; unfold Rg at *; omega)
  rw [k7] at hP hD
  have hP9 := hP.sub (ws' := [(h, oX11 th aw ai ab ac hi re aP ta po en be de fa a5 sp av an ak ne aW aC ag aT aN aF), (aw, .inl (cI, 2179, .inl (upd fw (66 + 7 * cN mm) v)))]) [0, 1] rfl
  have hD9 := hD.sub (ws' := [(h, oX11 th aw ai ab ac hi re aP ta po en be de fa a5 sp av an ak ne aW aC ag aT aN aF), (aw, .inl (cI, 2179, .inl (upd fw (66 + 7 * cN mm) v)))]) [0, 1] (by decide) rfl
  exact W.vret hx hb hr (fun t ht hW => ⟨⟨(), rfl, trivial, by rw [ht]; exact hP9, va_K.moved hW.alike hK, hD9⟩, hS.F ht⟩) hS.2.2 dX11_sets_15

set_option maxHeartbeats 4000000 in
set_option maxRecDepth 100000 in
/-- reference: sets -/
theorem r_sets6x (l : Launch) (D : va_G) (cI cJ cB cC : ClassId) (h : Nat) (th : Int32) (aw : Nat) (ai : Nat) (ab : Nat) (ac : Nat) (hi : Int32) (re : Int32) (aP : Nat) (ta : Int32) (po : Int32) (en : Int32) (be : Int32) (de : Int32) (fa : Int32) (a5 : Nat) (sp : Int32) (av : Nat) (an : Nat) (ak : Nat) (ne : Int32) (aW : Nat) (aC : Nat) (ag : Nat) (aT : Nat) (aN : Nat) (aF : Nat) (fw : Nat → Int32) (mm : Int32) (v : Int32) (sz : Nat) (H_mm : Rg mm 0 11) : Met l yX11_sets kwX11_sets ({ frames := 0, cells := 0, slots := 0, locals := 0 } : Room) (kPre D (kT cI cJ cB cC) sz [(h, oX11 th aw ai ab ac hi re aP ta po en be de fa a5 sp av an ak ne aW aC ag aT aN aF), (aw, .inl (cI, 2179, .inl fw))] [.ref h, .int mm, .int 6, .int v]) (va_Qv (fun (_ : Unit) => True) (fun (_ : Unit) (t : State) => kB D (kT cI cJ cB cC) (va_A [(h, oX11 th aw ai ab ac hi re aP ta po en be de fa a5 sp av an ak ne aW aC ag aT aN aF), (aw, .inl (cI, 2179, .inl fw))] sz) [(h, oX11 th aw ai ab ac hi re aP ta po en be de fa a5 sp av an ak ne aW aC ag aT aN aF), (aw, .inl (cI, 2179, .inl (upd fw (67 + 7 * cN mm) v)))] t) (va_A [(h, oX11 th aw ai ab ac hi re aP ta po en be de fa a5 sp av an ak ne aW aC ag aT aN aF), (aw, .inl (cI, 2179, .inl fw))] sz)) 0 0 (va_A [(h, oX11 th aw ai ab ac hi re aP ta po en be de fa a5 sp av an ak ne aW aC ag aT aN aF), (aw, .inl (cI, 2179, .inl fw))] sz) := by
  refine Met.ofW (cc := cX11_sets) (maxL := 4) (ret := none) (by decide) rfl ?_
  intro p e s m args below meth c s₁ B hml hv
  obtain ⟨rfl, hsz, hN, hE, hP, hK, hD0⟩ := hv
  have hx := B.exec
  have hb := B.bytes
  have hr := B.returns
  have hts := fun (w : Cond) (h : w ∈ kG) => atoms_spec (ws := kwX11_sets) B.pre w (List.mem_cons_of_mem _ h)
  have hown : s.vm.findClass RX11 = some m.cls := findClass_of_methodNamed B.named
  subst hsz
  have hD := hD0.self (sz := s.heap.size)
  generalize hAe : va_A [(h, oX11 th aw ai ab ac hi re aP ta po en be de fa a5 sp av an ak ne aW aC ag aT aN aF), (aw, .inl (cI, 2179, .inl fw))] s.heap.size = A at hD hE ⊢
  have hA : ∀ q : Nat, s.heap.size ≤ q → A q := fun q h => by rw [← hAe]; exact Or.inr h
  have hl := lv_entry ([.ref h, .int mm, .int 6, .int v]) (n := 4) (Nat.le_of_ble_eq_true rfl)
  rw [lg_entry_eq]
  generalize (lg_sl ([.ref h, .int mm, .int 6, .int v]) ++ List.replicate (4 - (lg_sl ([.ref h, .int mm, .int 6, .int v])).length) Slot.unset).toArray = ls at hl ⊢
  have hl : lv_has ls 4 [(0, .ref h), (1, .int mm), (2, .int 6), (3, .int v)] := hl
  obtain ⟨H, hH0⟩ : ∃ H, H = s.heap := ⟨_, rfl⟩
  have hS : va_S A s.heap H [] := by rw [hH0]; exact va_S.rf
  have hP : va_P D vwCl [(h, oX11 th aw ai ab ac hi re aP ta po en be de fa a5 sp av an ak ne aW aC ag aT aN aF), (aw, .inl (cI, 2179, .inl fw))] H := by rw [hH0]; exact hP
  refine kHeap hH0 ?_
  clear hH0
  refine lv_aload_n hx hb dX11_sets_0 rfl (lv_at hl 0 rfl) ?_
  refine va_get (D := D) (ci := 10) (v := .ref aw) (C := RX11) (T := TX11) (N := 26) hx hb hts iG_X11 hown hK hP 0 rfl rfl 1 (by decide) (hts _ w5_3) (fun _ h9 => h9) rfl dX11_sets_1 ?_
  refine lv_bipush (v := 61) hx hb dX11_sets_4 (by decide) ?_
  refine lv_bipush (v := 7) hx hb dX11_sets_6 (by decide) ?_
  refine lv_iload_n hx hb dX11_sets_8 rfl (lv_at hl 1 rfl) ?_
  refine lv_imul hx hb dX11_sets_9 ?_
  refine lv_topi (fun x1 ex1 => ?_)
  have tx1 : x1.toInt = 7 * mm.toInt := ti_mul ex1 (rg_lit (n := 7) (by decide)) H_mm (by decide) (by decide) rfl
  have k2 : Rg x1 0 77 := rg_mul ex1 (rg_lit (n := 7) (by decide)) H_mm (by decide)
  refine lv_iadd hx hb dX11_sets_10 ?_
  refine lv_topi (fun x3 ex3 => ?_)
  have tx3 : x3.toInt = 61 + x1.toInt := ti_add ex3 (rg_lit (n := 61) (by decide)) k2 (by decide) (by decide) rfl
  have k4 : Rg x3 61 138 := rg_add ex3 (rg_lit (n := 61) (by decide)) k2 (by decide)
  refine lv_iload_n hx hb dX11_sets_11 rfl (lv_at hl 2 rfl) ?_
  refine lv_iadd hx hb dX11_sets_12 ?_
  refine lv_topi (fun x5 ex5 => ?_)
  have tx5 : x5.toInt = x3.toInt + 6 := ti_add ex5 k4 (rg_lit (n := 6) (by decide)) (by decide) rfl (by decide)
  have k6 : Rg x5 67 144 := rg_add ex5 k4 (rg_lit (n := 6) (by decide)) (by decide)
  refine lv_iload_n hx hb dX11_sets_13 rfl (lv_at hl 3 rfl) ?_
  refine va_iast hx hb hK hP hD hS 1 0 rfl rfl (rg_in k6 (by decide)) dX11_sets_14 (fun H locs hP hD hS => ?_)
  have hP : va_P D vwCl [(h, oX11 th aw ai ab ac hi re aP ta po en be de fa a5 sp av an ak ne aW aC ag aT aN aF), (aw, .inl (cI, 2179, .inl (upd fw x5.toNatClampNeg v)))] H := hP
  have hD : va_D A [(h, oX11 th aw ai ab ac hi re aP ta po en be de fa a5 sp av an ak ne aW aC ag aT aN aF), (aw, .inl (cI, 2179, .inl (upd fw x5.toNatClampNeg v)))] := hD
  have k7 : x5.toNatClampNeg = 67 + 7 * cN mm := cl_of k6 (by decide) (by (try simp only [cN]); have q9 := H_mm; unfold Rg at *; omega)
  rw [k7] at hP hD
  have hP9 := hP.sub (ws' := [(h, oX11 th aw ai ab ac hi re aP ta po en be de fa a5 sp av an ak ne aW aC ag aT aN aF), (aw, .inl (cI, 2179, .inl (upd fw (67 + 7 * cN mm) v)))]) [0, 1] rfl
  have hD9 := hD.sub (ws' := [(h, oX11 th aw ai ab ac hi re aP ta po en be de fa a5 sp av an ak ne aW aC ag aT aN aF), (aw, .inl (cI, 2179, .inl (upd fw (67 + 7 * cN mm) v)))]) [0, 1] (by decide) rfl
  exact W.vret hx hb hr (fun t ht hW => ⟨⟨(), rfl, trivial, by rw [ht]; exact hP9, va_K.moved hW.alike hK, hD9⟩, hS.F ht⟩) hS.2.2 dX11_sets_15

set_option maxHeartbeats 4000000 in
set_option maxRecDepth 100000 in
/-- reference: setsMan -/
theorem r_setsMan0k (l : Launch) (D : va_G) (cI cJ cB cC : ClassId) (h : Nat) (th : Int32) (aw : Nat) (ai : Nat) (ab : Nat) (ac : Nat) (hi : Int32) (re : Int32) (aP : Nat) (ta : Int32) (po : Int32) (en : Int32) (be : Int32) (de : Int32) (fa : Int32) (a5 : Nat) (sp : Int32) (av : Nat) (an : Nat) (ak : Nat) (ne : Int32) (aW : Nat) (aC : Nat) (ag : Nat) (aT : Nat) (aN : Nat) (aF : Nat) (fw : Nat → Int32) (mm : Int32) (v : Int32) (sz : Nat) (H_mm : Rg mm 0 9) (H_fw_W : wW fw) (H_fw_B : wB fw) (H_fw_L : wL fw) : Met l yX11_setsMan kwX11_setsMan ({ frames := 0, cells := 0, slots := 0, locals := 0 } : Room) (kPre D (kT cI cJ cB cC) sz [(h, oX11 th aw ai ab ac hi re aP ta po en be de fa a5 sp av an ak ne aW aC ag aT aN aF), (aw, .inl (cI, 2179, .inl fw))] [.ref h, .int mm, .int 0, .int v]) (va_Qv (fun (f0_ : (Nat → Int32)) => wB f0_ ∧ wL f0_ ∧ wW f0_ ∧ (f0_ 0 = fw 0)) (fun (f0_ : (Nat → Int32)) (t : State) => kB D (kT cI cJ cB cC) (va_A [(h, oX11 th aw ai ab ac hi re aP ta po en be de fa a5 sp av an ak ne aW aC ag aT aN aF), (aw, .inl (cI, 2179, .inl fw))] sz) [(h, oX11 th aw ai ab ac hi re aP ta po en be de fa a5 sp av an ak ne aW aC ag aT aN aF), (aw, .inl (cI, 2179, .inl f0_))] t) (va_A [(h, oX11 th aw ai ab ac hi re aP ta po en be de fa a5 sp av an ak ne aW aC ag aT aN aF), (aw, .inl (cI, 2179, .inl fw))] sz)) 0 0 (va_A [(h, oX11 th aw ai ab ac hi re aP ta po en be de fa a5 sp av an ak ne aW aC ag aT aN aF), (aw, .inl (cI, 2179, .inl fw))] sz) := by
  refine Met.ofW (cc := cX11_setsMan) (maxL := 4) (ret := none) (by decide) rfl ?_
  intro p e s m args below meth c s₁ B hml hv
  obtain ⟨rfl, hsz, hN, hE, hP, hK, hD0⟩ := hv
  have hx := B.exec
  have hb := B.bytes
  have hr := B.returns
  have hts := fun (w : Cond) (h : w ∈ kG) => atoms_spec (ws := kwX11_setsMan) B.pre w (List.mem_cons_of_mem _ h)
  have hown : s.vm.findClass RX11 = some m.cls := findClass_of_methodNamed B.named
  subst hsz
  have hD := hD0.self (sz := s.heap.size)
  generalize hAe : va_A [(h, oX11 th aw ai ab ac hi re aP ta po en be de fa a5 sp av an ak ne aW aC ag aT aN aF), (aw, .inl (cI, 2179, .inl fw))] s.heap.size = A at hD hE ⊢
  have hA : ∀ q : Nat, s.heap.size ≤ q → A q := fun q h => by rw [← hAe]; exact Or.inr h
  have hl := lv_entry ([.ref h, .int mm, .int 0, .int v]) (n := 4) (Nat.le_of_ble_eq_true rfl)
  rw [lg_entry_eq]
  generalize (lg_sl ([.ref h, .int mm, .int 0, .int v]) ++ List.replicate (4 - (lg_sl ([.ref h, .int mm, .int 0, .int v])).length) Slot.unset).toArray = ls at hl ⊢
  have hl : lv_has ls 4 [(0, .ref h), (1, .int mm), (2, .int 0), (3, .int v)] := hl
  obtain ⟨H, hH0⟩ : ∃ H, H = s.heap := ⟨_, rfl⟩
  have hS : va_S A s.heap H [] := by rw [hH0]; exact va_S.rf
  have hP : va_P D vwCl [(h, oX11 th aw ai ab ac hi re aP ta po en be de fa a5 sp av an ak ne aW aC ag aT aN aF), (aw, .inl (cI, 2179, .inl fw))] H := by rw [hH0]; exact hP
  refine kHeap hH0 ?_
  clear hH0
  refine lv_aload_n hx hb dX11_setsMan_0 rfl (lv_at hl 0 rfl) ?_
  refine va_get (D := D) (ci := 10) (v := .ref aw) (C := RX11) (T := TX11) (N := 26) hx hb hts iG_X11 hown hK hP 0 rfl rfl 1 (by decide) (hts _ w5_3) (fun _ h9 => h9) rfl dX11_setsMan_1 ?_
  refine lv_bipush (v := 11) hx hb dX11_setsMan_4 (by decide) ?_
  refine lv_iconst (v := 5) hx hb dX11_setsMan_6 (by decide) ?_
  refine lv_iload_n hx hb dX11_setsMan_7 rfl (lv_at hl 1 rfl) ?_
  refine lv_imul hx hb dX11_setsMan_8 ?_
  refine lv_topi (fun x1 ex1 => ?_)
  have tx1 : x1.toInt = 5 * mm.toInt := ti_mul ex1 (rg_lit (n := 5) (by decide)) H_mm (by decide) (by decide) rfl
  have k2 : Rg x1 0 45 := rg_mul ex1 (rg_lit (n := 5) (by decide)) H_mm (by decide)
  refine lv_iadd hx hb dX11_setsMan_9 ?_
  refine lv_topi (fun x3 ex3 => ?_)
  have tx3 : x3.toInt = 11 + x1.toInt := ti_add ex3 (rg_lit (n := 11) (by decide)) k2 (by decide) (by decide) rfl
  have k4 : Rg x3 11 56 := rg_add ex3 (rg_lit (n := 11) (by decide)) k2 (by decide)
  refine lv_iload_n hx hb dX11_setsMan_10 rfl (lv_at hl 2 rfl) ?_
  refine lv_iadd hx hb dX11_setsMan_11 ?_
  refine lv_topi (fun x5 ex5 => ?_)
  have tx5 : x5.toInt = x3.toInt + 0 := ti_add ex5 k4 (rg_lit (n := 0) (by decide)) (by decide) rfl (by decide)
  have k6 : Rg x5 11 56 := rg_add ex5 k4 (rg_lit (n := 0) (by decide)) (by decide)
  refine lv_iload_n hx hb dX11_setsMan_12 rfl (lv_at hl 3 rfl) ?_
  refine va_iast hx hb hK hP hD hS 1 0 rfl rfl (rg_in k6 (by decide)) dX11_setsMan_13 (fun H locs hP hD hS => ?_)
  have hP : va_P D vwCl [(h, oX11 th aw ai ab ac hi re aP ta po en be de fa a5 sp av an ak ne aW aC ag aT aN aF), (aw, .inl (cI, 2179, .inl (upd fw x5.toNatClampNeg v)))] H := hP
  have hD : va_D A [(h, oX11 th aw ai ab ac hi re aP ta po en be de fa a5 sp av an ak ne aW aC ag aT aN aF), (aw, .inl (cI, 2179, .inl (upd fw x5.toNatClampNeg v)))] := hD
  have k8 : wW (upd fw x5.toNatClampNeg v) := wW_man 0 H_fw_W H_mm (by omega) (by omega) (by omega) (by omega)
  have k9 : wB (upd fw x5.toNatClampNeg v) := wB_lo H_fw_B H_fw_W k6 (by decide)
  have k10 : wL (upd fw x5.toNatClampNeg v) := wL_out H_fw_L k6 (by decide)
  generalize hg7 : (upd fw x5.toNatClampNeg v) = g7 at hP hD k8 k9 k10
  have hP9 := hP.sub (ws' := [(h, oX11 th aw ai ab ac hi re aP ta po en be de fa a5 sp av an ak ne aW aC ag aT aN aF), (aw, .inl (cI, 2179, .inl g7))]) [0, 1] rfl
  have hD9 := hD.sub (ws' := [(h, oX11 th aw ai ab ac hi re aP ta po en be de fa a5 sp av an ak ne aW aC ag aT aN aF), (aw, .inl (cI, 2179, .inl g7))]) [0, 1] (by decide) rfl
  exact W.vret hx hb hr (fun t ht hW => ⟨⟨(g7), rfl, ⟨k9, k10, k8, (by rw [← hg7]; exact upd_0 k6 (by decide))⟩, by rw [ht]; exact hP9, va_K.moved hW.alike hK, hD9⟩, hS.F ht⟩) hS.2.2 dX11_setsMan_14

set_option maxHeartbeats 4000000 in
set_option maxRecDepth 100000 in
/-- reference: setsMan -/
theorem r_setsMan1k (l : Launch) (D : va_G) (cI cJ cB cC : ClassId) (h : Nat) (th : Int32) (aw : Nat) (ai : Nat) (ab : Nat) (ac : Nat) (hi : Int32) (re : Int32) (aP : Nat) (ta : Int32) (po : Int32) (en : Int32) (be : Int32) (de : Int32) (fa : Int32) (a5 : Nat) (sp : Int32) (av : Nat) (an : Nat) (ak : Nat) (ne : Int32) (aW : Nat) (aC : Nat) (ag : Nat) (aT : Nat) (aN : Nat) (aF : Nat) (fw : Nat → Int32) (mm : Int32) (v : Int32) (sz : Nat) (H_mm : Rg mm 0 9) (H_fw_W : wW fw) (H_fw_B : wB fw) (H_fw_L : wL fw) : Met l yX11_setsMan kwX11_setsMan ({ frames := 0, cells := 0, slots := 0, locals := 0 } : Room) (kPre D (kT cI cJ cB cC) sz [(h, oX11 th aw ai ab ac hi re aP ta po en be de fa a5 sp av an ak ne aW aC ag aT aN aF), (aw, .inl (cI, 2179, .inl fw))] [.ref h, .int mm, .int 1, .int v]) (va_Qv (fun (f0_ : (Nat → Int32)) => wB f0_ ∧ wL f0_ ∧ wW f0_ ∧ (f0_ 0 = fw 0)) (fun (f0_ : (Nat → Int32)) (t : State) => kB D (kT cI cJ cB cC) (va_A [(h, oX11 th aw ai ab ac hi re aP ta po en be de fa a5 sp av an ak ne aW aC ag aT aN aF), (aw, .inl (cI, 2179, .inl fw))] sz) [(h, oX11 th aw ai ab ac hi re aP ta po en be de fa a5 sp av an ak ne aW aC ag aT aN aF), (aw, .inl (cI, 2179, .inl f0_))] t) (va_A [(h, oX11 th aw ai ab ac hi re aP ta po en be de fa a5 sp av an ak ne aW aC ag aT aN aF), (aw, .inl (cI, 2179, .inl fw))] sz)) 0 0 (va_A [(h, oX11 th aw ai ab ac hi re aP ta po en be de fa a5 sp av an ak ne aW aC ag aT aN aF), (aw, .inl (cI, 2179, .inl fw))] sz) := by
  refine Met.ofW (cc := cX11_setsMan) (maxL := 4) (ret := none) (by decide) rfl ?_
  intro p e s m args below meth c s₁ B hml hv
  obtain ⟨rfl, hsz, hN, hE, hP, hK, hD0⟩ := hv
  have hx := B.exec
  have hb := B.bytes
  have hr := B.returns
  have hts := fun (w : Cond) (h : w ∈ kG) => atoms_spec (ws := kwX11_setsMan) B.pre w (List.mem_cons_of_mem _ h)
  have hown : s.vm.findClass RX11 = some m.cls := findClass_of_methodNamed B.named
  subst hsz
  have hD := hD0.self (sz := s.heap.size)
  generalize hAe : va_A [(h, oX11 th aw ai ab ac hi re aP ta po en be de fa a5 sp av an ak ne aW aC ag aT aN aF), (aw, .inl (cI, 2179, .inl fw))] s.heap.size = A at hD hE ⊢
  have hA : ∀ q : Nat, s.heap.size ≤ q → A q := fun q h => by rw [← hAe]; exact Or.inr h
  have hl := lv_entry ([.ref h, .int mm, .int 1, .int v]) (n := 4) (Nat.le_of_ble_eq_true rfl)
  rw [lg_entry_eq]
  generalize (lg_sl ([.ref h, .int mm, .int 1, .int v]) ++ List.replicate (4 - (lg_sl ([.ref h, .int mm, .int 1, .int v])).length) Slot.unset).toArray = ls at hl ⊢
  have hl : lv_has ls 4 [(0, .ref h), (1, .int mm), (2, .int 1), (3, .int v)] := hl
  obtain ⟨H, hH0⟩ : ∃ H, H = s.heap := ⟨_, rfl⟩
  have hS : va_S A s.heap H [] := by rw [hH0]; exact va_S.rf
  have hP : va_P D vwCl [(h, oX11 th aw ai ab ac hi re aP ta po en be de fa a5 sp av an ak ne aW aC ag aT aN aF), (aw, .inl (cI, 2179, .inl fw))] H := by rw [hH0]; exact hP
  refine kHeap hH0 ?_
  clear hH0
  refine lv_aload_n hx hb dX11_setsMan_0 rfl (lv_at hl 0 rfl) ?_
  refine va_get (D := D) (ci := 10) (v := .ref aw) (C := RX11) (T := TX11) (N := 26) hx hb hts iG_X11 hown hK hP 0 rfl rfl 1 (by decide) (hts _ w5_3) (fun _ h9 => h9) rfl dX11_setsMan_1 ?_
  refine lv_bipush (v := 11) hx hb dX11_setsMan_4 (by decide) ?_
  refine lv_iconst (v := 5) hx hb dX11_setsMan_6 (by decide) ?_
  refine lv_iload_n hx hb dX11_setsMan_7 rfl (lv_at hl 1 rfl) ?_
  refine lv_imul hx hb dX11_setsMan_8 ?_
  refine lv_topi (fun x1 ex1 => ?_)
  have tx1 : x1.toInt = 5 * mm.toInt := ti_mul ex1 (rg_lit (n := 5) (by decide)) H_mm (by decide) (by decide) rfl
  have k2 : Rg x1 0 45 := rg_mul ex1 (rg_lit (n := 5) (by decide)) H_mm (by decide)
  refine lv_iadd hx hb dX11_setsMan_9 ?_
  refine lv_topi (fun x3 ex3 => ?_)
  have tx3 : x3.toInt = 11 + x1.toInt := ti_add ex3 (rg_lit (n := 11) (by decide)) k2 (by decide) (by decide) rfl
  have k4 : Rg x3 11 56 := rg_add ex3 (rg_lit (n := 11) (by decide)) k2 (by decide)
  refine lv_iload_n hx hb dX11_setsMan_10 rfl (lv_at hl 2 rfl) ?_
  refine lv_iadd hx hb dX11_setsMan_11 ?_
  refine lv_topi (fun x5 ex5 => ?_)
  have tx5 : x5.toInt = x3.toInt + 1 := ti_add ex5 k4 (rg_lit (n := 1) (by decide)) (by decide) rfl (by decide)
  have k6 : Rg x5 12 57 := rg_add ex5 k4 (rg_lit (n := 1) (by decide)) (by decide)
  refine lv_iload_n hx hb dX11_setsMan_12 rfl (lv_at hl 3 rfl) ?_
  refine va_iast hx hb hK hP hD hS 1 0 rfl rfl (rg_in k6 (by decide)) dX11_setsMan_13 (fun H locs hP hD hS => ?_)
  have hP : va_P D vwCl [(h, oX11 th aw ai ab ac hi re aP ta po en be de fa a5 sp av an ak ne aW aC ag aT aN aF), (aw, .inl (cI, 2179, .inl (upd fw x5.toNatClampNeg v)))] H := hP
  have hD : va_D A [(h, oX11 th aw ai ab ac hi re aP ta po en be de fa a5 sp av an ak ne aW aC ag aT aN aF), (aw, .inl (cI, 2179, .inl (upd fw x5.toNatClampNeg v)))] := hD
  have k8 : wW (upd fw x5.toNatClampNeg v) := wW_man 1 H_fw_W H_mm (by omega) (by omega) (by omega) (by omega)
  have k9 : wB (upd fw x5.toNatClampNeg v) := wB_lo H_fw_B H_fw_W k6 (by decide)
  have k10 : wL (upd fw x5.toNatClampNeg v) := wL_out H_fw_L k6 (by decide)
  generalize hg7 : (upd fw x5.toNatClampNeg v) = g7 at hP hD k8 k9 k10
  have hP9 := hP.sub (ws' := [(h, oX11 th aw ai ab ac hi re aP ta po en be de fa a5 sp av an ak ne aW aC ag aT aN aF), (aw, .inl (cI, 2179, .inl g7))]) [0, 1] rfl
  have hD9 := hD.sub (ws' := [(h, oX11 th aw ai ab ac hi re aP ta po en be de fa a5 sp av an ak ne aW aC ag aT aN aF), (aw, .inl (cI, 2179, .inl g7))]) [0, 1] (by decide) rfl
  exact W.vret hx hb hr (fun t ht hW => ⟨⟨(g7), rfl, ⟨k9, k10, k8, (by rw [← hg7]; exact upd_0 k6 (by decide))⟩, by rw [ht]; exact hP9, va_K.moved hW.alike hK, hD9⟩, hS.F ht⟩) hS.2.2 dX11_setsMan_14

set_option maxHeartbeats 4000000 in
set_option maxRecDepth 100000 in
/-- reference: setsMan -/
theorem r_setsMan2k (l : Launch) (D : va_G) (cI cJ cB cC : ClassId) (h : Nat) (th : Int32) (aw : Nat) (ai : Nat) (ab : Nat) (ac : Nat) (hi : Int32) (re : Int32) (aP : Nat) (ta : Int32) (po : Int32) (en : Int32) (be : Int32) (de : Int32) (fa : Int32) (a5 : Nat) (sp : Int32) (av : Nat) (an : Nat) (ak : Nat) (ne : Int32) (aW : Nat) (aC : Nat) (ag : Nat) (aT : Nat) (aN : Nat) (aF : Nat) (fw : Nat → Int32) (mm : Int32) (v : Int32) (sz : Nat) (H_mm : Rg mm 0 9) (H_v : Rg v 0 9) (H_fw_W : wW fw) (H_fw_B : wB fw) (H_fw_L : wL fw) : Met l yX11_setsMan kwX11_setsMan ({ frames := 0, cells := 0, slots := 0, locals := 0 } : Room) (kPre D (kT cI cJ cB cC) sz [(h, oX11 th aw ai ab ac hi re aP ta po en be de fa a5 sp av an ak ne aW aC ag aT aN aF), (aw, .inl (cI, 2179, .inl fw))] [.ref h, .int mm, .int 2, .int v]) (va_Qv (fun (f0_ : (Nat → Int32)) => wB f0_ ∧ wL f0_ ∧ wW f0_ ∧ (f0_ 0 = fw 0)) (fun (f0_ : (Nat → Int32)) (t : State) => kB D (kT cI cJ cB cC) (va_A [(h, oX11 th aw ai ab ac hi re aP ta po en be de fa a5 sp av an ak ne aW aC ag aT aN aF), (aw, .inl (cI, 2179, .inl fw))] sz) [(h, oX11 th aw ai ab ac hi re aP ta po en be de fa a5 sp av an ak ne aW aC ag aT aN aF), (aw, .inl (cI, 2179, .inl f0_))] t) (va_A [(h, oX11 th aw ai ab ac hi re aP ta po en be de fa a5 sp av an ak ne aW aC ag aT aN aF), (aw, .inl (cI, 2179, .inl fw))] sz)) 0 0 (va_A [(h, oX11 th aw ai ab ac hi re aP ta po en be de fa a5 sp av an ak ne aW aC ag aT aN aF), (aw, .inl (cI, 2179, .inl fw))] sz) := by
  refine Met.ofW (cc := cX11_setsMan) (maxL := 4) (ret := none) (by decide) rfl ?_
  intro p e s m args below meth c s₁ B hml hv
  obtain ⟨rfl, hsz, hN, hE, hP, hK, hD0⟩ := hv
  have hx := B.exec
  have hb := B.bytes
  have hr := B.returns
  have hts := fun (w : Cond) (h : w ∈ kG) => atoms_spec (ws := kwX11_setsMan) B.pre w (List.mem_cons_of_mem _ h)
  have hown : s.vm.findClass RX11 = some m.cls := findClass_of_methodNamed B.named
  subst hsz
  have hD := hD0.self (sz := s.heap.size)
  generalize hAe : va_A [(h, oX11 th aw ai ab ac hi re aP ta po en be de fa a5 sp av an ak ne aW aC ag aT aN aF), (aw, .inl (cI, 2179, .inl fw))] s.heap.size = A at hD hE ⊢
  have hA : ∀ q : Nat, s.heap.size ≤ q → A q := fun q h => by rw [← hAe]; exact Or.inr h
  have hl := lv_entry ([.ref h, .int mm, .int 2, .int v]) (n := 4) (Nat.le_of_ble_eq_true rfl)
  rw [lg_entry_eq]
  generalize (lg_sl ([.ref h, .int mm, .int 2, .int v]) ++ List.replicate (4 - (lg_sl ([.ref h, .int mm, .int 2, .int v])).length) Slot.unset).toArray = ls at hl ⊢
  have hl : lv_has ls 4 [(0, .ref h), (1, .int mm), (2, .int 2), (3, .int v)] := hl
  obtain ⟨H, hH0⟩ : ∃ H, H = s.heap := ⟨_, rfl⟩
  have hS : va_S A s.heap H [] := by rw [hH0]; exact va_S.rf
  have hP : va_P D vwCl [(h, oX11 th aw ai ab ac hi re aP ta po en be de fa a5 sp av an ak ne aW aC ag aT aN aF), (aw, .inl (cI, 2179, .inl fw))] H := by rw [hH0]; exact hP
  refine kHeap hH0 ?_
  clear hH0
  refine lv_aload_n hx hb dX11_setsMan_0 rfl (lv_at hl 0 rfl) ?_
  refine va_get (D := D) (ci := 10) (v := .ref aw) (C := RX11) (T := TX11) (N := 26) hx hb hts iG_X11 hown hK hP 0 rfl rfl 1 (by decide) (hts _ w5_3) (fun _ h9 => h9) rfl dX11_setsMan_1 ?_
  refine lv_bipush (v := 11) hx hb dX11_setsMan_4 (by decide) ?_
  refine lv_iconst (v := 5) hx hb dX11_setsMan_6 (by decide) ?_
  refine lv_iload_n hx hb dX11_setsMan_7 rfl (lv_at hl 1 rfl) ?_
  refine lv_imul hx hb dX11_setsMan_8 ?_
  refine lv_topi (fun x1 ex1 => ?_)
  have tx1 : x1.toInt = 5 * mm.toInt := ti_mul ex1 (rg_lit (n := 5) (by decide)) H_mm (by decide) (by decide) rfl
  have k2 : Rg x1 0 45 := rg_mul ex1 (rg_lit (n := 5) (by decide)) H_mm (by decide)
  refine lv_iadd hx hb dX11_setsMan_9 ?_
  refine lv_topi (fun x3 ex3 => ?_)
  have tx3 : x3.toInt = 11 + x1.toInt := ti_add ex3 (rg_lit (n := 11) (by decide)) k2 (by decide) (by decide) rfl
  have k4 : Rg x3 11 56 := rg_add ex3 (rg_lit (n := 11) (by decide)) k2 (by decide)
  refine lv_iload_n hx hb dX11_setsMan_10 rfl (lv_at hl 2 rfl) ?_
  refine lv_iadd hx hb dX11_setsMan_11 ?_
  refine lv_topi (fun x5 ex5 => ?_)
  have tx5 : x5.toInt = x3.toInt + 2 := ti_add ex5 k4 (rg_lit (n := 2) (by decide)) (by decide) rfl (by decide)
  have k6 : Rg x5 13 58 := rg_add ex5 k4 (rg_lit (n := 2) (by decide)) (by decide)
  refine lv_iload_n hx hb dX11_setsMan_12 rfl (lv_at hl 3 rfl) ?_
  refine va_iast hx hb hK hP hD hS 1 0 rfl rfl (rg_in k6 (by decide)) dX11_setsMan_13 (fun H locs hP hD hS => ?_)
  have hP : va_P D vwCl [(h, oX11 th aw ai ab ac hi re aP ta po en be de fa a5 sp av an ak ne aW aC ag aT aN aF), (aw, .inl (cI, 2179, .inl (upd fw x5.toNatClampNeg v)))] H := hP
  have hD : va_D A [(h, oX11 th aw ai ab ac hi re aP ta po en be de fa a5 sp av an ak ne aW aC ag aT aN aF), (aw, .inl (cI, 2179, .inl (upd fw x5.toNatClampNeg v)))] := hD
  have k8 : wW (upd fw x5.toNatClampNeg v) := wW_man 2 H_fw_W H_mm (by omega) (by omega) (fun _ => H_v) (by omega)
  have k9 : wB (upd fw x5.toNatClampNeg v) := wB_lo H_fw_B H_fw_W k6 (by decide)
  have k10 : wL (upd fw x5.toNatClampNeg v) := wL_out H_fw_L k6 (by decide)
  generalize hg7 : (upd fw x5.toNatClampNeg v) = g7 at hP hD k8 k9 k10
  have hP9 := hP.sub (ws' := [(h, oX11 th aw ai ab ac hi re aP ta po en be de fa a5 sp av an ak ne aW aC ag aT aN aF), (aw, .inl (cI, 2179, .inl g7))]) [0, 1] rfl
  have hD9 := hD.sub (ws' := [(h, oX11 th aw ai ab ac hi re aP ta po en be de fa a5 sp av an ak ne aW aC ag aT aN aF), (aw, .inl (cI, 2179, .inl g7))]) [0, 1] (by decide) rfl
  exact W.vret hx hb hr (fun t ht hW => ⟨⟨(g7), rfl, ⟨k9, k10, k8, (by rw [← hg7]; exact upd_0 k6 (by decide))⟩, by rw [ht]; exact hP9, va_K.moved hW.alike hK, hD9⟩, hS.F ht⟩) hS.2.2 dX11_setsMan_14

set_option maxHeartbeats 4000000 in
set_option maxRecDepth 100000 in
/-- reference: setsMan -/
theorem r_setsMan3k (l : Launch) (D : va_G) (cI cJ cB cC : ClassId) (h : Nat) (th : Int32) (aw : Nat) (ai : Nat) (ab : Nat) (ac : Nat) (hi : Int32) (re : Int32) (aP : Nat) (ta : Int32) (po : Int32) (en : Int32) (be : Int32) (de : Int32) (fa : Int32) (a5 : Nat) (sp : Int32) (av : Nat) (an : Nat) (ak : Nat) (ne : Int32) (aW : Nat) (aC : Nat) (ag : Nat) (aT : Nat) (aN : Nat) (aF : Nat) (fw : Nat → Int32) (mm : Int32) (v : Int32) (sz : Nat) (H_mm : Rg mm 0 9) (H_fw_W : wW fw) (H_fw_B : wB fw) (H_fw_L : wL fw) : Met l yX11_setsMan kwX11_setsMan ({ frames := 0, cells := 0, slots := 0, locals := 0 } : Room) (kPre D (kT cI cJ cB cC) sz [(h, oX11 th aw ai ab ac hi re aP ta po en be de fa a5 sp av an ak ne aW aC ag aT aN aF), (aw, .inl (cI, 2179, .inl fw))] [.ref h, .int mm, .int 3, .int v]) (va_Qv (fun (f0_ : (Nat → Int32)) => wB f0_ ∧ wL f0_ ∧ wW f0_ ∧ (f0_ 0 = fw 0)) (fun (f0_ : (Nat → Int32)) (t : State) => kB D (kT cI cJ cB cC) (va_A [(h, oX11 th aw ai ab ac hi re aP ta po en be de fa a5 sp av an ak ne aW aC ag aT aN aF), (aw, .inl (cI, 2179, .inl fw))] sz) [(h, oX11 th aw ai ab ac hi re aP ta po en be de fa a5 sp av an ak ne aW aC ag aT aN aF), (aw, .inl (cI, 2179, .inl f0_))] t) (va_A [(h, oX11 th aw ai ab ac hi re aP ta po en be de fa a5 sp av an ak ne aW aC ag aT aN aF), (aw, .inl (cI, 2179, .inl fw))] sz)) 0 0 (va_A [(h, oX11 th aw ai ab ac hi re aP ta po en be de fa a5 sp av an ak ne aW aC ag aT aN aF), (aw, .inl (cI, 2179, .inl fw))] sz) := by
  refine Met.ofW (cc := cX11_setsMan) (maxL := 4) (ret := none) (by decide) rfl ?_
  intro p e s m args below meth c s₁ B hml hv
  obtain ⟨rfl, hsz, hN, hE, hP, hK, hD0⟩ := hv
  have hx := B.exec
  have hb := B.bytes
  have hr := B.returns
  have hts := fun (w : Cond) (h : w ∈ kG) => atoms_spec (ws := kwX11_setsMan) B.pre w (List.mem_cons_of_mem _ h)
  have hown : s.vm.findClass RX11 = some m.cls := findClass_of_methodNamed B.named
  subst hsz
  have hD := hD0.self (sz := s.heap.size)
  generalize hAe : va_A [(h, oX11 th aw ai ab ac hi re aP ta po en be de fa a5 sp av an ak ne aW aC ag aT aN aF), (aw, .inl (cI, 2179, .inl fw))] s.heap.size = A at hD hE ⊢
  have hA : ∀ q : Nat, s.heap.size ≤ q → A q := fun q h => by rw [← hAe]; exact Or.inr h
  have hl := lv_entry ([.ref h, .int mm, .int 3, .int v]) (n := 4) (Nat.le_of_ble_eq_true rfl)
  rw [lg_entry_eq]
  generalize (lg_sl ([.ref h, .int mm, .int 3, .int v]) ++ List.replicate (4 - (lg_sl ([.ref h, .int mm, .int 3, .int v])).length) Slot.unset).toArray = ls at hl ⊢
  have hl : lv_has ls 4 [(0, .ref h), (1, .int mm), (2, .int 3), (3, .int v)] := hl
  obtain ⟨H, hH0⟩ : ∃ H, H = s.heap := ⟨_, rfl⟩
  have hS : va_S A s.heap H [] := by rw [hH0]; exact va_S.rf
  have hP : va_P D vwCl [(h, oX11 th aw ai ab ac hi re aP ta po en be de fa a5 sp av an ak ne aW aC ag aT aN aF), (aw, .inl (cI, 2179, .inl fw))] H := by rw [hH0]; exact hP
  refine kHeap hH0 ?_
  clear hH0
  refine lv_aload_n hx hb dX11_setsMan_0 rfl (lv_at hl 0 rfl) ?_
  refine va_get (D := D) (ci := 10) (v := .ref aw) (C := RX11) (T := TX11) (N := 26) hx hb hts iG_X11 hown hK hP 0 rfl rfl 1 (by decide) (hts _ w5_3) (fun _ h9 => h9) rfl dX11_setsMan_1 ?_
  refine lv_bipush (v := 11) hx hb dX11_setsMan_4 (by decide) ?_
  refine lv_iconst (v := 5) hx hb dX11_setsMan_6 (by decide) ?_
  refine lv_iload_n hx hb dX11_setsMan_7 rfl (lv_at hl 1 rfl) ?_
  refine lv_imul hx hb dX11_setsMan_8 ?_
  refine lv_topi (fun x1 ex1 => ?_)
  have tx1 : x1.toInt = 5 * mm.toInt := ti_mul ex1 (rg_lit (n := 5) (by decide)) H_mm (by decide) (by decide) rfl
  have k2 : Rg x1 0 45 := rg_mul ex1 (rg_lit (n := 5) (by decide)) H_mm (by decide)
  refine lv_iadd hx hb dX11_setsMan_9 ?_
  refine lv_topi (fun x3 ex3 => ?_)
  have tx3 : x3.toInt = 11 + x1.toInt := ti_add ex3 (rg_lit (n := 11) (by decide)) k2 (by decide) (by decide) rfl
  have k4 : Rg x3 11 56 := rg_add ex3 (rg_lit (n := 11) (by decide)) k2 (by decide)
  refine lv_iload_n hx hb dX11_setsMan_10 rfl (lv_at hl 2 rfl) ?_
  refine lv_iadd hx hb dX11_setsMan_11 ?_
  refine lv_topi (fun x5 ex5 => ?_)
  have tx5 : x5.toInt = x3.toInt + 3 := ti_add ex5 k4 (rg_lit (n := 3) (by decide)) (by decide) rfl (by decide)
  have k6 : Rg x5 14 59 := rg_add ex5 k4 (rg_lit (n := 3) (by decide)) (by decide)
  refine lv_iload_n hx hb dX11_setsMan_12 rfl (lv_at hl 3 rfl) ?_
  refine va_iast hx hb hK hP hD hS 1 0 rfl rfl (rg_in k6 (by decide)) dX11_setsMan_13 (fun H locs hP hD hS => ?_)
  have hP : va_P D vwCl [(h, oX11 th aw ai ab ac hi re aP ta po en be de fa a5 sp av an ak ne aW aC ag aT aN aF), (aw, .inl (cI, 2179, .inl (upd fw x5.toNatClampNeg v)))] H := hP
  have hD : va_D A [(h, oX11 th aw ai ab ac hi re aP ta po en be de fa a5 sp av an ak ne aW aC ag aT aN aF), (aw, .inl (cI, 2179, .inl (upd fw x5.toNatClampNeg v)))] := hD
  have k8 : wW (upd fw x5.toNatClampNeg v) := wW_man 3 H_fw_W H_mm (by omega) (by omega) (by omega) (by omega)
  have k9 : wB (upd fw x5.toNatClampNeg v) := wB_lo H_fw_B H_fw_W k6 (by decide)
  have k10 : wL (upd fw x5.toNatClampNeg v) := wL_out H_fw_L k6 (by decide)
  generalize hg7 : (upd fw x5.toNatClampNeg v) = g7 at hP hD k8 k9 k10
  have hP9 := hP.sub (ws' := [(h, oX11 th aw ai ab ac hi re aP ta po en be de fa a5 sp av an ak ne aW aC ag aT aN aF), (aw, .inl (cI, 2179, .inl g7))]) [0, 1] rfl
  have hD9 := hD.sub (ws' := [(h, oX11 th aw ai ab ac hi re aP ta po en be de fa a5 sp av an ak ne aW aC ag aT aN aF), (aw, .inl (cI, 2179, .inl g7))]) [0, 1] (by decide) rfl
  exact W.vret hx hb hr (fun t ht hW => ⟨⟨(g7), rfl, ⟨k9, k10, k8, (by rw [← hg7]; exact upd_0 k6 (by decide))⟩, by rw [ht]; exact hP9, va_K.moved hW.alike hK, hD9⟩, hS.F ht⟩) hS.2.2 dX11_setsMan_14

set_option maxHeartbeats 4000000 in
set_option maxRecDepth 100000 in
/-- reference: setsMan -/
theorem r_setsMan4k (l : Launch) (D : va_G) (cI cJ cB cC : ClassId) (h : Nat) (th : Int32) (aw : Nat) (ai : Nat) (ab : Nat) (ac : Nat) (hi : Int32) (re : Int32) (aP : Nat) (ta : Int32) (po : Int32) (en : Int32) (be : Int32) (de : Int32) (fa : Int32) (a5 : Nat) (sp : Int32) (av : Nat) (an : Nat) (ak : Nat) (ne : Int32) (aW : Nat) (aC : Nat) (ag : Nat) (aT : Nat) (aN : Nat) (aF : Nat) (fw : Nat → Int32) (mm : Int32) (v : Int32) (sz : Nat) (H_mm : Rg mm 0 9) (H_v : Rg v (-1) 11) (H_fw_W : wW fw) (H_fw_B : wB fw) (H_fw_L : wL fw) : Met l yX11_setsMan kwX11_setsMan ({ frames := 0, cells := 0, slots := 0, locals := 0 } : Room) (kPre D (kT cI cJ cB cC) sz [(h, oX11 th aw ai ab ac hi re aP ta po en be de fa a5 sp av an ak ne aW aC ag aT aN aF), (aw, .inl (cI, 2179, .inl fw))] [.ref h, .int mm, .int 4, .int v]) (va_Qv (fun (f0_ : (Nat → Int32)) => wB f0_ ∧ wL f0_ ∧ wW f0_ ∧ (f0_ 0 = fw 0)) (fun (f0_ : (Nat → Int32)) (t : State) => kB D (kT cI cJ cB cC) (va_A [(h, oX11 th aw ai ab ac hi re aP ta po en be de fa a5 sp av an ak ne aW aC ag aT aN aF), (aw, .inl (cI, 2179, .inl fw))] sz) [(h, oX11 th aw ai ab ac hi re aP ta po en be de fa a5 sp av an ak ne aW aC ag aT aN aF), (aw, .inl (cI, 2179, .inl f0_))] t) (va_A [(h, oX11 th aw ai ab ac hi re aP ta po en be de fa a5 sp av an ak ne aW aC ag aT aN aF), (aw, .inl (cI, 2179, .inl fw))] sz)) 0 0 (va_A [(h, oX11 th aw ai ab ac hi re aP ta po en be de fa a5 sp av an ak ne aW aC ag aT aN aF), (aw, .inl (cI, 2179, .inl fw))] sz) := by
  refine Met.ofW (cc := cX11_setsMan) (maxL := 4) (ret := none) (by decide) rfl ?_
  intro p e s m args below meth c s₁ B hml hv
  obtain ⟨rfl, hsz, hN, hE, hP, hK, hD0⟩ := hv
  have hx := B.exec
  have hb := B.bytes
  have hr := B.returns
  have hts := fun (w : Cond) (h : w ∈ kG) => atoms_spec (ws := kwX11_setsMan) B.pre w (List.mem_cons_of_mem _ h)
  have hown : s.vm.findClass RX11 = some m.cls := findClass_of_methodNamed B.named
  subst hsz
  have hD := hD0.self (sz := s.heap.size)
  generalize hAe : va_A [(h, oX11 th aw ai ab ac hi re aP ta po en be de fa a5 sp av an ak ne aW aC ag aT aN aF), (aw, .inl (cI, 2179, .inl fw))] s.heap.size = A at hD hE ⊢
  have hA : ∀ q : Nat, s.heap.size ≤ q → A q := fun q h => by rw [← hAe]; exact Or.inr h
  have hl := lv_entry ([.ref h, .int mm, .int 4, .int v]) (n := 4) (Nat.le_of_ble_eq_true rfl)
  rw [lg_entry_eq]
  generalize (lg_sl ([.ref h, .int mm, .int 4, .int v]) ++ List.replicate (4 - (lg_sl ([.ref h, .int mm, .int 4, .int v])).length) Slot.unset).toArray = ls at hl ⊢
  have hl : lv_has ls 4 [(0, .ref h), (1, .int mm), (2, .int 4), (3, .int v)] := hl
  obtain ⟨H, hH0⟩ : ∃ H, H = s.heap := ⟨_, rfl⟩
  have hS : va_S A s.heap H [] := by rw [hH0]; exact va_S.rf
  have hP : va_P D vwCl [(h, oX11 th aw ai ab ac hi re aP ta po en be de fa a5 sp av an ak ne aW aC ag aT aN aF), (aw, .inl (cI, 2179, .inl fw))] H := by rw [hH0]; exact hP
  refine kHeap hH0 ?_
  clear hH0
  refine lv_aload_n hx hb dX11_setsMan_0 rfl (lv_at hl 0 rfl) ?_
  refine va_get (D := D) (ci := 10) (v := .ref aw) (C := RX11) (T := TX11) (N := 26) hx hb hts iG_X11 hown hK hP 0 rfl rfl 1 (by decide) (hts _ w5_3) (fun _ h9 => h9) rfl dX11_setsMan_1 ?_
  refine lv_bipush (v := 11) hx hb dX11_setsMan_4 (by decide) ?_
  refine lv_iconst (v := 5) hx hb dX11_setsMan_6 (by decide) ?_
  refine lv_iload_n hx hb dX11_setsMan_7 rfl (lv_at hl 1 rfl) ?_
  refine lv_imul hx hb dX11_setsMan_8 ?_
  refine lv_topi (fun x1 ex1 => ?_)
  have tx1 : x1.toInt = 5 * mm.toInt := ti_mul ex1 (rg_lit (n := 5) (by decide)) H_mm (by decide) (by decide) rfl
  have k2 : Rg x1 0 45 := rg_mul ex1 (rg_lit (n := 5) (by decide)) H_mm (by decide)
  refine lv_iadd hx hb dX11_setsMan_9 ?_
  refine lv_topi (fun x3 ex3 => ?_)
  have tx3 : x3.toInt = 11 + x1.toInt := ti_add ex3 (rg_lit (n := 11) (by decide)) k2 (by decide) (by decide) rfl
  have k4 : Rg x3 11 56 := rg_add ex3 (rg_lit (n := 11) (by decide)) k2 (by decide)
  refine lv_iload_n hx hb dX11_setsMan_10 rfl (lv_at hl 2 rfl) ?_
  refine lv_iadd hx hb dX11_setsMan_11 ?_
  refine lv_topi (fun x5 ex5 => ?_)
  have tx5 : x5.toInt = x3.toInt + 4 := ti_add ex5 k4 (rg_lit (n := 4) (by decide)) (by decide) rfl (by decide)
  have k6 : Rg x5 15 60 := rg_add ex5 k4 (rg_lit (n := 4) (by decide)) (by decide)
  refine lv_iload_n hx hb dX11_setsMan_12 rfl (lv_at hl 3 rfl) ?_
  refine va_iast hx hb hK hP hD hS 1 0 rfl rfl (rg_in k6 (by decide)) dX11_setsMan_13 (fun H locs hP hD hS => ?_)
  have hP : va_P D vwCl [(h, oX11 th aw ai ab ac hi re aP ta po en be de fa a5 sp av an ak ne aW aC ag aT aN aF), (aw, .inl (cI, 2179, .inl (upd fw x5.toNatClampNeg v)))] H := hP
  have hD : va_D A [(h, oX11 th aw ai ab ac hi re aP ta po en be de fa a5 sp av an ak ne aW aC ag aT aN aF), (aw, .inl (cI, 2179, .inl (upd fw x5.toNatClampNeg v)))] := hD
  have k8 : wW (upd fw x5.toNatClampNeg v) := wW_man 4 H_fw_W H_mm (by omega) (by omega) (by omega) (fun _ => H_v)
  have k9 : wB (upd fw x5.toNatClampNeg v) := wB_lo H_fw_B H_fw_W k6 (by decide)
  have k10 : wL (upd fw x5.toNatClampNeg v) := wL_out H_fw_L k6 (by decide)
  generalize hg7 : (upd fw x5.toNatClampNeg v) = g7 at hP hD k8 k9 k10
  have hP9 := hP.sub (ws' := [(h, oX11 th aw ai ab ac hi re aP ta po en be de fa a5 sp av an ak ne aW aC ag aT aN aF), (aw, .inl (cI, 2179, .inl g7))]) [0, 1] rfl
  have hD9 := hD.sub (ws' := [(h, oX11 th aw ai ab ac hi re aP ta po en be de fa a5 sp av an ak ne aW aC ag aT aN aF), (aw, .inl (cI, 2179, .inl g7))]) [0, 1] (by decide) rfl
  exact W.vret hx hb hr (fun t ht hW => ⟨⟨(g7), rfl, ⟨k9, k10, k8, (by rw [← hg7]; exact upd_0 k6 (by decide))⟩, by rw [ht]; exact hP9, va_K.moved hW.alike hK, hD9⟩, hS.F ht⟩) hS.2.2 dX11_setsMan_14

def kwX11_readMan : List Cond := .code yX11_readMan cX11_readMan 6 (some .boolean) :: kG
theorem hdX11_readMan : yX11_readMan.cls ≠ "java/lang/invoke/MethodHandle" ∧ yX11_readMan.cls ≠ "java/lang/invoke/VarHandle" ∧ (parseMethodDescriptor yX11_readMan.desc).map (fun d => d.parameters.length) = some 0 := by decide +kernel
theorem gX11_readMan_X11_after : GoodIn kG (wsV RX11 130 RX11 yX11_after kwX11_after) := gK w20_1 (gK w20_2 (gK w20_3 (gK w0_5 (gK w20_4 gGG))))
theorem gX11_readMan_X11_colour : GoodIn kG (wsV RX11 138 RX11 yX11_colour kwX11_colour) := gK w20_5 (gK w20_6 (gK w20_7 (gK w0_5 (gK w20_8 gGG))))
theorem gX11_readMan_X11_isWord : GoodIn kG (wsV RX11 114 RX11 yX11_isWord kwX11_isWord) := gK w19_7 (gK w19_8 (gK w19_9 (gK w0_5 (gK w19_10 gGG))))
theorem gX11_readMan_X11_letters : GoodIn kG (wsV RX11 111 RX11 yX11_letters kwX11_letters) := gK w18_23 (gK w19_0 (gK w19_1 (gK w0_5 (gK w19_2 gGG))))
theorem gX11_readMan_X11_men : GoodIn kG (wsV RX11 71 RX11 yX11_men kwX11_men) := gK w19_17 (gK w19_18 (gK w19_19 (gK w0_5 (gK w19_20 gGG))))
theorem gX11_readMan_X11_number : GoodIn kG (wsV RX11 118 RX11 yX11_number kwX11_number) := gK w19_21 (gK w19_22 (gK w19_23 (gK w0_5 (gK w20_0 gGG))))
theorem gX11_readMan_X11_setsMan : GoodIn kG (wsV RX11 141 RX11 yX11_setsMan kwX11_setsMan) := gK w20_9 (gK w20_10 (gK w20_11 (gK w0_5 (gK w20_12 gGG))))
theorem dX11_readMan_0 : decode cX11_readMan 0 = .ok (.aload_n 0, 1) := by decide +kernel
theorem dX11_readMan_1 : decode cX11_readMan 1 = .ok (.invokevirtual 71, 3) := by decide +kernel
theorem dX11_readMan_4 : decode cX11_readMan 4 = .ok (.istore_n 1, 1) := by decide +kernel
theorem dX11_readMan_5 : decode cX11_readMan 5 = .ok (.iload_n 1, 1) := by decide +kernel
theorem dX11_readMan_6 : decode cX11_readMan 6 = .ok (.bipush 10, 2) := by decide +kernel
theorem dX11_readMan_8 : decode cX11_readMan 8 = .ok (.if_icmp .ne 5, 3) := by decide +kernel
theorem dX11_readMan_11 : decode cX11_readMan 11 = .ok (.iconst 0, 1) := by decide +kernel
theorem dX11_readMan_12 : decode cX11_readMan 12 = .ok (.ireturn, 1) := by decide +kernel
theorem dX11_readMan_13 : decode cX11_readMan 13 = .ok (.aload_n 0, 1) := by decide +kernel
theorem dX11_readMan_14 : decode cX11_readMan 14 = .ok (.iconst 0, 1) := by decide +kernel
theorem dX11_readMan_15 : decode cX11_readMan 15 = .ok (.bipush 99, 2) := by decide +kernel
theorem dX11_readMan_17 : decode cX11_readMan 17 = .ok (.invokevirtual 118, 3) := by decide +kernel
theorem dX11_readMan_20 : decode cX11_readMan 20 = .ok (.istore_n 2, 1) := by decide +kernel
theorem dX11_readMan_21 : decode cX11_readMan 21 = .ok (.iload_n 2, 1) := by decide +kernel
theorem dX11_readMan_22 : decode cX11_readMan 22 = .ok (.ifCond .ge 7, 3) := by decide +kernel
theorem dX11_readMan_25 : decode cX11_readMan 25 = .ok (.iconst (-1), 1) := by decide +kernel
theorem dX11_readMan_26 : decode cX11_readMan 26 = .ok (.goto 12, 3) := by decide +kernel
theorem dX11_readMan_29 : decode cX11_readMan 29 = .ok (.aload_n 0, 1) := by decide +kernel
theorem dX11_readMan_30 : decode cX11_readMan 30 = .ok (.ldc 128, 2) := by decide +kernel
theorem dX11_readMan_32 : decode cX11_readMan 32 = .ok (.iconst 0, 1) := by decide +kernel
theorem dX11_readMan_33 : decode cX11_readMan 33 = .ok (.bipush 9, 2) := by decide +kernel
theorem dX11_readMan_35 : decode cX11_readMan 35 = .ok (.invokevirtual 130, 3) := by decide +kernel
theorem dX11_readMan_38 : decode cX11_readMan 38 = .ok (.istore_n 3, 1) := by decide +kernel
theorem dX11_readMan_39 : decode cX11_readMan 39 = .ok (.iload_n 3, 1) := by decide +kernel
theorem dX11_readMan_40 : decode cX11_readMan 40 = .ok (.ifCond .ge 7, 3) := by decide +kernel
theorem dX11_readMan_43 : decode cX11_readMan 43 = .ok (.iconst (-1), 1) := by decide +kernel
theorem dX11_readMan_44 : decode cX11_readMan 44 = .ok (.goto 12, 3) := by decide +kernel
theorem dX11_readMan_47 : decode cX11_readMan 47 = .ok (.aload_n 0, 1) := by decide +kernel
theorem dX11_readMan_48 : decode cX11_readMan 48 = .ok (.ldc 134, 2) := by decide +kernel
theorem dX11_readMan_50 : decode cX11_readMan 50 = .ok (.iconst 0, 1) := by decide +kernel
theorem dX11_readMan_51 : decode cX11_readMan 51 = .ok (.bipush 9, 2) := by decide +kernel
theorem dX11_readMan_53 : decode cX11_readMan 53 = .ok (.invokevirtual 130, 3) := by decide +kernel
theorem dX11_readMan_56 : decode cX11_readMan 56 = .ok (.istore 4, 2) := by decide +kernel
theorem dX11_readMan_58 : decode cX11_readMan 58 = .ok (.iload 4, 2) := by decide +kernel
theorem dX11_readMan_60 : decode cX11_readMan 60 = .ok (.ifCond .ge 5, 3) := by decide +kernel
theorem dX11_readMan_63 : decode cX11_readMan 63 = .ok (.iconst 0, 1) := by decide +kernel
theorem dX11_readMan_64 : decode cX11_readMan 64 = .ok (.ireturn, 1) := by decide +kernel
theorem dX11_readMan_65 : decode cX11_readMan 65 = .ok (.aload_n 0, 1) := by decide +kernel
theorem dX11_readMan_66 : decode cX11_readMan 66 = .ok (.invokevirtual 111, 3) := by decide +kernel
theorem dX11_readMan_69 : decode cX11_readMan 69 = .ok (.aload_n 0, 1) := by decide +kernel
theorem dX11_readMan_70 : decode cX11_readMan 70 = .ok (.ldc 136, 2) := by decide +kernel
theorem dX11_readMan_72 : decode cX11_readMan 72 = .ok (.invokevirtual 114, 3) := by decide +kernel
theorem dX11_readMan_75 : decode cX11_readMan 75 = .ok (.ifCond .eq 10, 3) := by decide +kernel
theorem dX11_readMan_78 : decode cX11_readMan 78 = .ok (.aload_n 0, 1) := by decide +kernel
theorem dX11_readMan_79 : decode cX11_readMan 79 = .ok (.invokevirtual 138, 3) := by decide +kernel
theorem dX11_readMan_82 : decode cX11_readMan 82 = .ok (.goto 4, 3) := by decide +kernel
theorem dX11_readMan_85 : decode cX11_readMan 85 = .ok (.iconst (-1), 1) := by decide +kernel
theorem dX11_readMan_86 : decode cX11_readMan 86 = .ok (.istore 5, 2) := by decide +kernel
theorem dX11_readMan_88 : decode cX11_readMan 88 = .ok (.iload 5, 2) := by decide +kernel
theorem dX11_readMan_90 : decode cX11_readMan 90 = .ok (.ifCond .ge 5, 3) := by decide +kernel
theorem dX11_readMan_93 : decode cX11_readMan 93 = .ok (.iconst 0, 1) := by decide +kernel
theorem dX11_readMan_94 : decode cX11_readMan 94 = .ok (.ireturn, 1) := by decide +kernel
theorem dX11_readMan_95 : decode cX11_readMan 95 = .ok (.aload_n 0, 1) := by decide +kernel
theorem dX11_readMan_96 : decode cX11_readMan 96 = .ok (.iload_n 1, 1) := by decide +kernel
theorem dX11_readMan_97 : decode cX11_readMan 97 = .ok (.iconst 0, 1) := by decide +kernel
theorem dX11_readMan_98 : decode cX11_readMan 98 = .ok (.iload_n 2, 1) := by decide +kernel
theorem dX11_readMan_99 : decode cX11_readMan 99 = .ok (.invokevirtual 141, 3) := by decide +kernel
theorem dX11_readMan_102 : decode cX11_readMan 102 = .ok (.aload_n 0, 1) := by decide +kernel
theorem dX11_readMan_103 : decode cX11_readMan 103 = .ok (.iload_n 1, 1) := by decide +kernel
theorem dX11_readMan_104 : decode cX11_readMan 104 = .ok (.iconst 1, 1) := by decide +kernel
theorem dX11_readMan_105 : decode cX11_readMan 105 = .ok (.iload_n 3, 1) := by decide +kernel
theorem dX11_readMan_106 : decode cX11_readMan 106 = .ok (.invokevirtual 141, 3) := by decide +kernel
theorem dX11_readMan_109 : decode cX11_readMan 109 = .ok (.aload_n 0, 1) := by decide +kernel
theorem dX11_readMan_110 : decode cX11_readMan 110 = .ok (.iload_n 1, 1) := by decide +kernel
theorem dX11_readMan_111 : decode cX11_readMan 111 = .ok (.iconst 2, 1) := by decide +kernel
theorem dX11_readMan_112 : decode cX11_readMan 112 = .ok (.iload 4, 2) := by decide +kernel
theorem dX11_readMan_114 : decode cX11_readMan 114 = .ok (.invokevirtual 141, 3) := by decide +kernel
theorem dX11_readMan_117 : decode cX11_readMan 117 = .ok (.aload_n 0, 1) := by decide +kernel
theorem dX11_readMan_118 : decode cX11_readMan 118 = .ok (.iload_n 1, 1) := by decide +kernel
theorem dX11_readMan_119 : decode cX11_readMan 119 = .ok (.iconst 3, 1) := by decide +kernel
theorem dX11_readMan_120 : decode cX11_readMan 120 = .ok (.iload 5, 2) := by decide +kernel
theorem dX11_readMan_122 : decode cX11_readMan 122 = .ok (.invokevirtual 141, 3) := by decide +kernel
theorem dX11_readMan_125 : decode cX11_readMan 125 = .ok (.aload_n 0, 1) := by decide +kernel
theorem dX11_readMan_126 : decode cX11_readMan 126 = .ok (.iload_n 1, 1) := by decide +kernel
theorem dX11_readMan_127 : decode cX11_readMan 127 = .ok (.iconst 4, 1) := by decide +kernel
theorem dX11_readMan_128 : decode cX11_readMan 128 = .ok (.iconst (-1), 1) := by decide +kernel
theorem dX11_readMan_129 : decode cX11_readMan 129 = .ok (.invokevirtual 141, 3) := by decide +kernel
theorem dX11_readMan_132 : decode cX11_readMan 132 = .ok (.aload_n 0, 1) := by decide +kernel
theorem dX11_readMan_133 : decode cX11_readMan 133 = .ok (.getfield 13, 3) := by decide +kernel
theorem dX11_readMan_136 : decode cX11_readMan 136 = .ok (.iconst 0, 1) := by decide +kernel
theorem dX11_readMan_137 : decode cX11_readMan 137 = .ok (.dup2, 1) := by decide +kernel
theorem dX11_readMan_138 : decode cX11_readMan 138 = .ok (.iaload, 1) := by decide +kernel
theorem dX11_readMan_139 : decode cX11_readMan 139 = .ok (.iconst 1, 1) := by decide +kernel
theorem dX11_readMan_140 : decode cX11_readMan 140 = .ok (.iadd, 1) := by decide +kernel
theorem dX11_readMan_141 : decode cX11_readMan 141 = .ok (.iastore, 1) := by decide +kernel
theorem dX11_readMan_142 : decode cX11_readMan 142 = .ok (.iconst 1, 1) := by decide +kernel
theorem dX11_readMan_143 : decode cX11_readMan 143 = .ok (.ireturn, 1) := by decide +kernel
set_option maxHeartbeats 4000000 in
set_option maxRecDepth 100000 in
/-- reference: readMan -/
theorem r_readMan (l : Launch) (D : va_G) (cI cJ cB cC : ClassId) (h : Nat) (th : Int32) (aw : Nat) (ai : Nat) (ab : Nat) (ac : Nat) (hi : Int32) (re : Int32) (aP : Nat) (ta : Int32) (po : Int32) (en : Int32) (be : Int32) (de : Int32) (fa : Int32) (a5 : Nat) (sp : Int32) (av : Nat) (an : Nat) (ak : Nat) (ne : Int32) (aW : Nat) (aC : Nat) (ag : Nat) (aT : Nat) (aN : Nat) (aF : Nat) (fw : Nat → Int32) (ft : Nat → Int32) (sz : Nat) (H_po : Rg po 0 400) (H_en : Rg en 0 400) (H_fw_W : wW fw) (H_fw_B : wB fw) (H_fw_L : wL fw) : Met l yX11_readMan kwX11_readMan ({ frames := 6, cells := 0, slots := 0, locals := 131 } : Room) (kPre D (kT cI cJ cB cC) sz [(h, oX11 th aw ai ab ac hi re aP ta po en be de fa a5 sp av an ak ne aW aC ag aT aN aF), (aw, .inl (cI, 2179, .inl fw)), (aP, .inl (cB, 400, .inl ft))] [.ref h]) (va_Qi (fun (r : Int32) (uu : Int32 × Int32 × (Nat → Int32)) => match uu with | (n0_, n1_, f2_) => Rg n0_ 0 400 ∧ wB f2_ ∧ wL f2_ ∧ wW f2_ ∧ ((r = 0) ∨ (r = 1))) (fun (uu : Int32 × Int32 × (Nat → Int32)) (t : State) => match uu with | (n0_, n1_, f2_) => kB D (kT cI cJ cB cC) (va_A [(h, oX11 th aw ai ab ac hi re aP ta po en be de fa a5 sp av an ak ne aW aC ag aT aN aF), (aw, .inl (cI, 2179, .inl fw)), (aP, .inl (cB, 400, .inl ft))] sz) [(h, oX11 th aw ai ab ac hi re aP ta n0_ en n1_ de fa a5 sp av an ak ne aW aC ag aT aN aF), (aw, .inl (cI, 2179, .inl f2_)), (aP, .inl (cB, 400, .inl ft))] t) (va_A [(h, oX11 th aw ai ab ac hi re aP ta po en be de fa a5 sp av an ak ne aW aC ag aT aN aF), (aw, .inl (cI, 2179, .inl fw)), (aP, .inl (cB, 400, .inl ft))] sz)) 0 0 (va_A [(h, oX11 th aw ai ab ac hi re aP ta po en be de fa a5 sp av an ak ne aW aC ag aT aN aF), (aw, .inl (cI, 2179, .inl fw)), (aP, .inl (cB, 400, .inl ft))] sz) := by
  refine Met.ofW (cc := cX11_readMan) (maxL := 6) (ret := (some .boolean)) (by decide) rfl ?_
  intro p e s m args below meth c s₁ B hml hv
  obtain ⟨rfl, hsz, hN, hE, hP, hK, hD0⟩ := hv
  have hx := B.exec
  have hb := B.bytes
  have hr := B.returns
  have hts := fun (w : Cond) (h : w ∈ kG) => atoms_spec (ws := kwX11_readMan) B.pre w (List.mem_cons_of_mem _ h)
  have hown : s.vm.findClass RX11 = some m.cls := findClass_of_methodNamed B.named
  subst hsz
  have hD := hD0.self (sz := s.heap.size)
  generalize hAe : va_A [(h, oX11 th aw ai ab ac hi re aP ta po en be de fa a5 sp av an ak ne aW aC ag aT aN aF), (aw, .inl (cI, 2179, .inl fw)), (aP, .inl (cB, 400, .inl ft))] s.heap.size = A at hD hE ⊢
  have hA : ∀ q : Nat, s.heap.size ≤ q → A q := fun q h => by rw [← hAe]; exact Or.inr h
  have hl := lv_entry ([.ref h]) (n := 6) (Nat.le_of_ble_eq_true rfl)
  rw [lg_entry_eq]
  generalize (lg_sl ([.ref h]) ++ List.replicate (6 - (lg_sl ([.ref h])).length) Slot.unset).toArray = ls at hl ⊢
  have hl : lv_has ls 6 [(0, .ref h)] := hl
  obtain ⟨H, hH0⟩ : ∃ H, H = s.heap := ⟨_, rfl⟩
  have hS : va_S A s.heap H [] := by rw [hH0]; exact va_S.rf
  have hP : va_P D vwCl [(h, oX11 th aw ai ab ac hi re aP ta po en be de fa a5 sp av an ak ne aW aC ag aT aN aF), (aw, .inl (cI, 2179, .inl fw)), (aP, .inl (cB, 400, .inl ft))] H := by rw [hH0]; exact hP
  refine kHeap hH0 ?_
  clear hH0
  refine lv_aload_n hx hb dX11_readMan_0 rfl (lv_at hl 0 rfl) ?_
  refine kpurei (wc := [(h, oX11 th aw ai ab ac hi re aP ta po en be de fa a5 sp av an ak ne aW aC ag aT aN aF), (aw, .inl (cI, 2179, .inl fw))]) hP hD hS hA [0, 1] rfl (by decide) (fun hPc hDc hFc => va_runV (As := []) (rest := []) ⟨hx, hb, hml, hown, hts⟩ (r_men l D cI cJ cB cC h th aw ai ab ac hi re aP ta po en be de fa a5 sp av an ak ne aW aC ag aT aN aF fw H.size H_fw_W) (cwV 0 hts gX11_readMan_X11_men rfl rfl rfl ⟨rfl, hdX11_men⟩ ⟨Nat.le_of_ble_eq_true rfl, Nat.le_of_ble_eq_true rfl⟩) ⟨kBlind, va_recv hK hPc (ci := 10) (q0 := 0) rfl rfl, fun U hU hW => ⟨rfl, by rw [hU], hN.warm hW, hE.pass hS hFc hW hU, by rw [hU]; exact hPc, va_K.moved hW.alike hK, hDc⟩⟩ rfl rfl hl.1 rfl (lv_room (Nat.le_of_ble_eq_true rfl)) dX11_readMan_1 ⟨Nat.le_of_ble_eq_true rfl, Nat.le_of_ble_eq_true rfl⟩) (fun r1 u H locs hw hP hS => ?_)
  obtain ⟨k2, k3⟩ := hw
  refine lv_istore_n (lv' := [(1, .int r1), (0, .ref h)]) hx hb dX11_readMan_4 rfl hl (by decide) rfl (fun ls hl => ?_)
  refine lv_iload_n hx hb dX11_readMan_5 rfl (lv_at hl 0 rfl) ?_
  refine lv_bipush (v := 10) hx hb dX11_readMan_6 (by decide) ?_
  refine lv_icmp_ne (tgt := 13) hx hb dX11_readMan_8 (by decide) (fun c4 => ?_) (fun c4 => ?_)
  · skip
    have k5 : Rg r1 0 9 := rg_n1 (neI c4) k3 (rg_lit (n := 10) (by decide)) (by decide)
    refine lv_aload_n hx hb dX11_readMan_13 rfl (lv_at hl 1 rfl) ?_
    refine lv_iconst (v := 0) hx hb dX11_readMan_14 (by decide) ?_
    refine lv_bipush (v := 99) hx hb dX11_readMan_15 (by decide) ?_
    refine kcalli (wc := [(h, oX11 th aw ai ab ac hi re aP ta po en be de fa a5 sp av an ak ne aW aC ag aT aN aF), (aP, .inl (cB, 400, .inl ft))]) (wr := [(aw, .inl (cI, 2179, .inl fw))]) hP hD hS hA [0, 2] [1] rfl rfl (by decide) (by decide) (by decide) (fun hPc hDc hFc => va_runV (As := [.int 0, .int 99]) (rest := []) ⟨hx, hb, hml, hown, hts⟩ (r_number_99 l D cI cJ cB cC h th aw ai ab ac hi re aP ta po en be de fa a5 sp av an ak ne aW aC ag aT aN aF ft H.size H_po H_en) (cwV 2 hts gX11_readMan_X11_number rfl rfl rfl ⟨rfl, hdX11_number⟩ ⟨Nat.le_of_ble_eq_true rfl, Nat.le_of_ble_eq_true rfl⟩) ⟨kBlind, va_recv hK hPc (ci := 10) (q0 := 0) rfl rfl, fun U hU hW => ⟨rfl, by rw [hU], hN.warm hW, hE.pass hS hFc hW hU, by rw [hU]; exact hPc, va_K.moved hW.alike hK, hDc⟩⟩ rfl rfl hl.1 rfl (lv_room (Nat.le_of_ble_eq_true rfl)) dX11_readMan_17 ⟨Nat.le_of_ble_eq_true rfl, Nat.le_of_ble_eq_true rfl⟩) (fun r6 u H locs hw hP hD hS => ?_)
    obtain ⟨x7, x8⟩ := u
    have hP : va_P D vwCl [(aw, .inl (cI, 2179, .inl fw)), (h, oX11 th aw ai ab ac hi re aP ta x7 en x8 de fa a5 sp av an ak ne aW aC ag aT aN aF), (aP, .inl (cB, 400, .inl ft))] H := hP
    have hD : va_D A [(aw, .inl (cI, 2179, .inl fw)), (h, oX11 th aw ai ab ac hi re aP ta x7 en x8 de fa a5 sp av an ak ne aW aC ag aT aN aF), (aP, .inl (cB, 400, .inl ft))] := hD
    obtain ⟨k9, k10, k11, k12, k13⟩ := hw
    refine lv_istore_n (lv' := [(2, .int r6), (1, .int r1), (0, .ref h)]) hx hb dX11_readMan_20 rfl hl (by decide) rfl (fun ls hl => ?_)
    refine lv_iload_n hx hb dX11_readMan_21 rfl (lv_at hl 0 rfl) ?_
    refine k_join (hd := 38) (cells2 := 0) (slots2 := 0) (fun (u : Int32 × Int32 × Int32) => match u with | (z30, y31, y32) => [.int z30]) (fun (u : Int32 × Int32 × Int32) (H : Heap) (locs : List Loc) (ls : Array Slot) => match u with | (z30, y31, y32) => Rg z30 (-1) 9 ∧ Rg y31 0 400 ∧ Rg y32 0 400 ∧ va_P D vwCl [(aw, .inl (cI, 2179, .inl fw)), (h, oX11 th aw ai ab ac hi re aP ta y31 en y32 de fa a5 sp av an ak ne aW aC ag aT aN aF), (aP, .inl (cB, 400, .inl ft))] H ∧ va_D A [(aw, .inl (cI, 2179, .inl fw)), (h, oX11 th aw ai ab ac hi re aP ta y31 en y32 de fa a5 sp av an ak ne aW aC ag aT aN aF), (aP, .inl (cB, 400, .inl ft))] ∧ va_S A s.heap H locs ∧ lv_has ls 6 [(2, .int r6), (1, .int r1), (0, .ref h)]) (fun u H locs ls hI => ?_) (fun hJ38 => ?_)
    · skip
      clear hP hD hS hl
      obtain ⟨z30, y31, y32⟩ := u
      obtain ⟨hz30, hy31, hy32, hP, hD, hS, hl⟩ := hI
      have hP : va_P D vwCl [(aw, .inl (cI, 2179, .inl fw)), (h, oX11 th aw ai ab ac hi re aP ta y31 en y32 de fa a5 sp av an ak ne aW aC ag aT aN aF), (aP, .inl (cB, 400, .inl ft))] H := hP
      have hD : va_D A [(aw, .inl (cI, 2179, .inl fw)), (h, oX11 th aw ai ab ac hi re aP ta y31 en y32 de fa a5 sp av an ak ne aW aC ag aT aN aF), (aP, .inl (cB, 400, .inl ft))] := hD
      have hl : lv_has ls 6 [(2, .int r6), (1, .int r1), (0, .ref h)] := hl
      show W _ _ _ _ _ _ _ _ _ _ _ _ _ _ _ (F0 m 38 ls [.int z30])
      refine lv_istore_n (lv' := [(3, .int z30), (2, .int r6), (1, .int r1), (0, .ref h)]) hx hb dX11_readMan_38 rfl hl (by decide) rfl (fun ls hl => ?_)
      refine lv_iload_n hx hb dX11_readMan_39 rfl (lv_at hl 0 rfl) ?_
      refine k_join (hd := 56) (cells2 := 0) (slots2 := 0) (fun (u : Int32 × Int32 × Int32) => match u with | (z49, y50, y51) => [.int z49]) (fun (u : Int32 × Int32 × Int32) (H : Heap) (locs : List Loc) (ls : Array Slot) => match u with | (z49, y50, y51) => Rg z49 (-1) 9 ∧ Rg y50 0 400 ∧ Rg y51 0 400 ∧ va_P D vwCl [(aw, .inl (cI, 2179, .inl fw)), (h, oX11 th aw ai ab ac hi re aP ta y50 en y51 de fa a5 sp av an ak ne aW aC ag aT aN aF), (aP, .inl (cB, 400, .inl ft))] H ∧ va_D A [(aw, .inl (cI, 2179, .inl fw)), (h, oX11 th aw ai ab ac hi re aP ta y50 en y51 de fa a5 sp av an ak ne aW aC ag aT aN aF), (aP, .inl (cB, 400, .inl ft))] ∧ va_S A s.heap H locs ∧ lv_has ls 6 [(3, .int z30), (2, .int r6), (1, .int r1), (0, .ref h)]) (fun u H locs ls hI => ?_) (fun hJ56 => ?_)
      · skip
        clear hP hD hS hl
        obtain ⟨z49, y50, y51⟩ := u
        obtain ⟨hz49, hy50, hy51, hP, hD, hS, hl⟩ := hI
        have hP : va_P D vwCl [(aw, .inl (cI, 2179, .inl fw)), (h, oX11 th aw ai ab ac hi re aP ta y50 en y51 de fa a5 sp av an ak ne aW aC ag aT aN aF), (aP, .inl (cB, 400, .inl ft))] H := hP
        have hD : va_D A [(aw, .inl (cI, 2179, .inl fw)), (h, oX11 th aw ai ab ac hi re aP ta y50 en y51 de fa a5 sp av an ak ne aW aC ag aT aN aF), (aP, .inl (cB, 400, .inl ft))] := hD
        have hl : lv_has ls 6 [(3, .int z30), (2, .int r6), (1, .int r1), (0, .ref h)] := hl
        show W _ _ _ _ _ _ _ _ _ _ _ _ _ _ _ (F0 m 56 ls [.int z49])
        refine lv_istore (lv' := [(4, .int z49), (3, .int z30), (2, .int r6), (1, .int r1), (0, .ref h)]) hx hb dX11_readMan_56 hl (by decide) rfl (fun ls hl => ?_)
        refine lv_iload hx hb dX11_readMan_58 (lv_at hl 0 rfl) ?_
        refine lv_if_ge (tgt := 65) hx hb dX11_readMan_60 (by decide) (fun c52 => ?_) (fun c52 => ?_)
        · skip
          have k53 : Rg z49 0 9 := rg_e2 (leI c52) (rg_lit (n := 0) (by decide)) hz49 (by decide)
          refine lv_aload_n hx hb dX11_readMan_65 rfl (lv_at hl 4 rfl) ?_
          refine kcallv (wc := [(h, oX11 th aw ai ab ac hi re aP ta y50 en y51 de fa a5 sp av an ak ne aW aC ag aT aN aF), (aP, .inl (cB, 400, .inl ft))]) (wr := [(aw, .inl (cI, 2179, .inl fw))]) hP hD hS hA [1, 2] [0] rfl rfl (by decide) (by decide) (by decide) (fun hPc hDc hFc => va_runV (As := []) (rest := []) ⟨hx, hb, hml, hown, hts⟩ (r_letters l D cI cJ cB cC h th aw ai ab ac hi re aP ta y50 en y51 de fa a5 sp av an ak ne aW aC ag aT aN aF ft H.size hy50 H_en) (cwV 0 hts gX11_readMan_X11_letters rfl rfl rfl ⟨rfl, hdX11_letters⟩ ⟨Nat.le_of_ble_eq_true rfl, Nat.le_of_ble_eq_true rfl⟩) ⟨kBlind, va_recv hK hPc (ci := 10) (q0 := 0) rfl rfl, fun U hU hW => ⟨rfl, by rw [hU], hN.warm hW, hE.pass hS hFc hW hU, by rw [hU]; exact hPc, va_K.moved hW.alike hK, hDc⟩⟩ rfl rfl hl.1 rfl (lv_room (Nat.le_of_ble_eq_true rfl)) dX11_readMan_66 ⟨Nat.le_of_ble_eq_true rfl, Nat.le_of_ble_eq_true rfl⟩) (fun u H locs hw hP hD hS => ?_)
          obtain ⟨x54, x55⟩ := u
          have hP : va_P D vwCl [(aw, .inl (cI, 2179, .inl fw)), (h, oX11 th aw ai ab ac hi re aP ta x54 en x55 de fa a5 sp av an ak ne aW aC ag aT aN aF), (aP, .inl (cB, 400, .inl ft))] H := hP
          have hD : va_D A [(aw, .inl (cI, 2179, .inl fw)), (h, oX11 th aw ai ab ac hi re aP ta x54 en x55 de fa a5 sp av an ak ne aW aC ag aT aN aF), (aP, .inl (cB, 400, .inl ft))] := hD
          obtain ⟨k56, k57, k58, k59⟩ := hw
          refine lv_aload_n hx hb dX11_readMan_69 rfl (lv_at hl 4 rfl) ?_
          obtain ⟨q60, q61, hR62, hT63⟩ := kTx_4 hE.2.2
          refine va_ldcS hx hb hown hR62 dX11_readMan_70 ?_
          refine kpurei (wc := [(h, oX11 th aw ai ab ac hi re aP ta x54 en x55 de fa a5 sp av an ak ne aW aC ag aT aN aF), (aP, .inl (cB, 400, .inl ft))]) hP hD hS hA [1, 2] rfl (by decide) (fun hPc hDc hFc => va_runV (As := [.ref q60]) (rest := []) ⟨hx, hb, hml, hown, hts⟩ (r_isWord l D cI cJ cB cC h th aw ai ab ac hi re aP ta x54 en x55 de fa a5 sp av an ak ne aW aC ag aT aN aF ft q60 kSb4 q61 H.size k56 H_en k57 kSb4_le) (cwV 1 hts gX11_readMan_X11_isWord rfl rfl rfl ⟨rfl, hdX11_isWord⟩ ⟨Nat.le_of_ble_eq_true rfl, Nat.le_of_ble_eq_true rfl⟩) ⟨kBlindT, va_recv hK hPc (ci := 10) (q0 := 0) rfl rfl, fun U hU hW => ⟨rfl, by rw [hU], hN.warm hW, hE.pass hS hFc hW hU, hT63.pass hS hFc hW hU, by rw [hU]; exact hPc, va_K.moved hW.alike hK, hDc⟩⟩ rfl rfl hl.1 rfl (lv_room (Nat.le_of_ble_eq_true rfl)) dX11_readMan_72 ⟨Nat.le_of_ble_eq_true rfl, Nat.le_of_ble_eq_true rfl⟩) (fun r64 u H locs hw hP hS => ?_)
          obtain ⟨k65, k66⟩ := hw
          refine k_join (hd := 86) (cells2 := 0) (slots2 := 0) (fun (u : Int32 × Int32 × Int32) => match u with | (z79, y80, y81) => [.int z79]) (fun (u : Int32 × Int32 × Int32) (H : Heap) (locs : List Loc) (ls : Array Slot) => match u with | (z79, y80, y81) => Rg z79 (-1) 2 ∧ Rg y80 0 400 ∧ Rg y81 0 400 ∧ va_P D vwCl [(aw, .inl (cI, 2179, .inl fw)), (h, oX11 th aw ai ab ac hi re aP ta y80 en y81 de fa a5 sp av an ak ne aW aC ag aT aN aF), (aP, .inl (cB, 400, .inl ft))] H ∧ va_D A [(aw, .inl (cI, 2179, .inl fw)), (h, oX11 th aw ai ab ac hi re aP ta y80 en y81 de fa a5 sp av an ak ne aW aC ag aT aN aF), (aP, .inl (cB, 400, .inl ft))] ∧ va_S A s.heap H locs ∧ lv_has ls 6 [(4, .int z49), (3, .int z30), (2, .int r6), (1, .int r1), (0, .ref h)]) (fun u H locs ls hI => ?_) (fun hJ86 => ?_)
          · skip
            clear hP hD hS hl
            obtain ⟨z79, y80, y81⟩ := u
            obtain ⟨hz79, hy80, hy81, hP, hD, hS, hl⟩ := hI
            have hP : va_P D vwCl [(aw, .inl (cI, 2179, .inl fw)), (h, oX11 th aw ai ab ac hi re aP ta y80 en y81 de fa a5 sp av an ak ne aW aC ag aT aN aF), (aP, .inl (cB, 400, .inl ft))] H := hP
            have hD : va_D A [(aw, .inl (cI, 2179, .inl fw)), (h, oX11 th aw ai ab ac hi re aP ta y80 en y81 de fa a5 sp av an ak ne aW aC ag aT aN aF), (aP, .inl (cB, 400, .inl ft))] := hD
            have hl : lv_has ls 6 [(4, .int z49), (3, .int z30), (2, .int r6), (1, .int r1), (0, .ref h)] := hl
            show W _ _ _ _ _ _ _ _ _ _ _ _ _ _ _ (F0 m 86 ls [.int z79])
            refine lv_istore (lv' := [(5, .int z79), (4, .int z49), (3, .int z30), (2, .int r6), (1, .int r1), (0, .ref h)]) hx hb dX11_readMan_86 hl (by decide) rfl (fun ls hl => ?_)
            refine lv_iload hx hb dX11_readMan_88 (lv_at hl 0 rfl) ?_
            refine lv_if_ge (tgt := 95) hx hb dX11_readMan_90 (by decide) (fun c82 => ?_) (fun c82 => ?_)
            · skip
              have k83 : Rg z79 0 2 := rg_e2 (leI c82) (rg_lit (n := 0) (by decide)) hz79 (by decide)
              refine lv_aload_n hx hb dX11_readMan_95 rfl (lv_at hl 5 rfl) ?_
              refine lv_iload_n hx hb dX11_readMan_96 rfl (lv_at hl 4 rfl) ?_
              refine lv_iconst (v := 0) hx hb dX11_readMan_97 (by decide) ?_
              refine lv_iload_n hx hb dX11_readMan_98 rfl (lv_at hl 3 rfl) ?_
              refine kcallv (wc := [(h, oX11 th aw ai ab ac hi re aP ta y80 en y81 de fa a5 sp av an ak ne aW aC ag aT aN aF), (aw, .inl (cI, 2179, .inl fw))]) (wr := [(aP, .inl (cB, 400, .inl ft))]) hP hD hS hA [1, 0] [2] rfl rfl (by decide) (by decide) (by decide) (fun hPc hDc hFc => va_runV (As := [.int r1, .int 0, .int r6]) (rest := []) ⟨hx, hb, hml, hown, hts⟩ (r_setsMan0k l D cI cJ cB cC h th aw ai ab ac hi re aP ta y80 en y81 de fa a5 sp av an ak ne aW aC ag aT aN aF fw r1 r6 H.size k5 H_fw_W H_fw_B H_fw_L) (cwV 3 hts gX11_readMan_X11_setsMan rfl rfl rfl ⟨rfl, hdX11_setsMan⟩ ⟨Nat.le_of_ble_eq_true rfl, Nat.le_of_ble_eq_true rfl⟩) ⟨kBlind, va_recv hK hPc (ci := 10) (q0 := 0) rfl rfl, fun U hU hW => ⟨rfl, by rw [hU], hN.warm hW, hE.pass hS hFc hW hU, by rw [hU]; exact hPc, va_K.moved hW.alike hK, hDc⟩⟩ rfl rfl hl.1 rfl (lv_room (Nat.le_of_ble_eq_true rfl)) dX11_readMan_99 ⟨Nat.le_of_ble_eq_true rfl, Nat.le_of_ble_eq_true rfl⟩) (fun u H locs hw hP hD hS => ?_)
              obtain ⟨g84, rfl⟩ : ∃ z, z = u := ⟨_, rfl⟩
              have hP : va_P D vwCl [(aP, .inl (cB, 400, .inl ft)), (h, oX11 th aw ai ab ac hi re aP ta y80 en y81 de fa a5 sp av an ak ne aW aC ag aT aN aF), (aw, .inl (cI, 2179, .inl g84))] H := hP
              have hD : va_D A [(aP, .inl (cB, 400, .inl ft)), (h, oX11 th aw ai ab ac hi re aP ta y80 en y81 de fa a5 sp av an ak ne aW aC ag aT aN aF), (aw, .inl (cI, 2179, .inl g84))] := hD
              obtain ⟨k85, k86, k87, k88⟩ := hw
              refine lv_aload_n hx hb dX11_readMan_102 rfl (lv_at hl 5 rfl) ?_
              refine lv_iload_n hx hb dX11_readMan_103 rfl (lv_at hl 4 rfl) ?_
              refine lv_iconst (v := 1) hx hb dX11_readMan_104 (by decide) ?_
              refine lv_iload_n hx hb dX11_readMan_105 rfl (lv_at hl 2 rfl) ?_
              refine kcallv (wc := [(h, oX11 th aw ai ab ac hi re aP ta y80 en y81 de fa a5 sp av an ak ne aW aC ag aT aN aF), (aw, .inl (cI, 2179, .inl g84))]) (wr := [(aP, .inl (cB, 400, .inl ft))]) hP hD hS hA [1, 2] [0] rfl rfl (by decide) (by decide) (by decide) (fun hPc hDc hFc => va_runV (As := [.int r1, .int 1, .int z30]) (rest := []) ⟨hx, hb, hml, hown, hts⟩ (r_setsMan1k l D cI cJ cB cC h th aw ai ab ac hi re aP ta y80 en y81 de fa a5 sp av an ak ne aW aC ag aT aN aF g84 r1 z30 H.size k5 k87 k85 k86) (cwV 3 hts gX11_readMan_X11_setsMan rfl rfl rfl ⟨rfl, hdX11_setsMan⟩ ⟨Nat.le_of_ble_eq_true rfl, Nat.le_of_ble_eq_true rfl⟩) ⟨kBlind, va_recv hK hPc (ci := 10) (q0 := 0) rfl rfl, fun U hU hW => ⟨rfl, by rw [hU], hN.warm hW, hE.pass hS hFc hW hU, by rw [hU]; exact hPc, va_K.moved hW.alike hK, hDc⟩⟩ rfl rfl hl.1 rfl (lv_room (Nat.le_of_ble_eq_true rfl)) dX11_readMan_106 ⟨Nat.le_of_ble_eq_true rfl, Nat.le_of_ble_eq_true rfl⟩) (fun u H locs hw hP hD hS => ?_)
              obtain ⟨g89, rfl⟩ : ∃ z, z = u := ⟨_, rfl⟩
              have hP : va_P D vwCl [(aP, .inl (cB, 400, .inl ft)), (h, oX11 th aw ai ab ac hi re aP ta y80 en y81 de fa a5 sp av an ak ne aW aC ag aT aN aF), (aw, .inl (cI, 2179, .inl g89))] H := hP
              have hD : va_D A [(aP, .inl (cB, 400, .inl ft)), (h, oX11 th aw ai ab ac hi re aP ta y80 en y81 de fa a5 sp av an ak ne aW aC ag aT aN aF), (aw, .inl (cI, 2179, .inl g89))] := hD
              obtain ⟨k90, k91, k92, k93⟩ := hw
              refine lv_aload_n hx hb dX11_readMan_109 rfl (lv_at hl 5 rfl) ?_
              refine lv_iload_n hx hb dX11_readMan_110 rfl (lv_at hl 4 rfl) ?_
              refine lv_iconst (v := 2) hx hb dX11_readMan_111 (by decide) ?_
              refine lv_iload hx hb dX11_readMan_112 (lv_at hl 1 rfl) ?_
              refine kcallv (wc := [(h, oX11 th aw ai ab ac hi re aP ta y80 en y81 de fa a5 sp av an ak ne aW aC ag aT aN aF), (aw, .inl (cI, 2179, .inl g89))]) (wr := [(aP, .inl (cB, 400, .inl ft))]) hP hD hS hA [1, 2] [0] rfl rfl (by decide) (by decide) (by decide) (fun hPc hDc hFc => va_runV (As := [.int r1, .int 2, .int z49]) (rest := []) ⟨hx, hb, hml, hown, hts⟩ (r_setsMan2k l D cI cJ cB cC h th aw ai ab ac hi re aP ta y80 en y81 de fa a5 sp av an ak ne aW aC ag aT aN aF g89 r1 z49 H.size k5 k53 k92 k90 k91) (cwV 3 hts gX11_readMan_X11_setsMan rfl rfl rfl ⟨rfl, hdX11_setsMan⟩ ⟨Nat.le_of_ble_eq_true rfl, Nat.le_of_ble_eq_true rfl⟩) ⟨kBlind, va_recv hK hPc (ci := 10) (q0 := 0) rfl rfl, fun U hU hW => ⟨rfl, by rw [hU], hN.warm hW, hE.pass hS hFc hW hU, by rw [hU]; exact hPc, va_K.moved hW.alike hK, hDc⟩⟩ rfl rfl hl.1 rfl (lv_room (Nat.le_of_ble_eq_true rfl)) dX11_readMan_114 ⟨Nat.le_of_ble_eq_true rfl, Nat.le_of_ble_eq_true rfl⟩) (fun u H locs hw hP hD hS => ?_)
              obtain ⟨g94, rfl⟩ : ∃ z, z = u := ⟨_, rfl⟩
              have hP : va_P D vwCl [(aP, .inl (cB, 400, .inl ft)), (h, oX11 th aw ai ab ac hi re aP ta y80 en y81 de fa a5 sp av an ak ne aW aC ag aT aN aF), (aw, .inl (cI, 2179, .inl g94))] H := hP
              have hD : va_D A [(aP, .inl (cB, 400, .inl ft)), (h, oX11 th aw ai ab ac hi re aP ta y80 en y81 de fa a5 sp av an ak ne aW aC ag aT aN aF), (aw, .inl (cI, 2179, .inl g94))] := hD
              obtain ⟨k95, k96, k97, k98⟩ := hw
              refine lv_aload_n hx hb dX11_readMan_117 rfl (lv_at hl 5 rfl) ?_
              refine lv_iload_n hx hb dX11_readMan_118 rfl (lv_at hl 4 rfl) ?_
              refine lv_iconst (v := 3) hx hb dX11_readMan_119 (by decide) ?_
              refine lv_iload hx hb dX11_readMan_120 (lv_at hl 0 rfl) ?_
              refine kcallv (wc := [(h, oX11 th aw ai ab ac hi re aP ta y80 en y81 de fa a5 sp av an ak ne aW aC ag aT aN aF), (aw, .inl (cI, 2179, .inl g94))]) (wr := [(aP, .inl (cB, 400, .inl ft))]) hP hD hS hA [1, 2] [0] rfl rfl (by decide) (by decide) (by decide) (fun hPc hDc hFc => va_runV (As := [.int r1, .int 3, .int z79]) (rest := []) ⟨hx, hb, hml, hown, hts⟩ (r_setsMan3k l D cI cJ cB cC h th aw ai ab ac hi re aP ta y80 en y81 de fa a5 sp av an ak ne aW aC ag aT aN aF g94 r1 z79 H.size k5 k97 k95 k96) (cwV 3 hts gX11_readMan_X11_setsMan rfl rfl rfl ⟨rfl, hdX11_setsMan⟩ ⟨Nat.le_of_ble_eq_true rfl, Nat.le_of_ble_eq_true rfl⟩) ⟨kBlind, va_recv hK hPc (ci := 10) (q0 := 0) rfl rfl, fun U hU hW => ⟨rfl, by rw [hU], hN.warm hW, hE.pass hS hFc hW hU, by rw [hU]; exact hPc, va_K.moved hW.alike hK, hDc⟩⟩ rfl rfl hl.1 rfl (lv_room (Nat.le_of_ble_eq_true rfl)) dX11_readMan_122 ⟨Nat.le_of_ble_eq_true rfl, Nat.le_of_ble_eq_true rfl⟩) (fun u H locs hw hP hD hS => ?_)
              obtain ⟨g99, rfl⟩ : ∃ z, z = u := ⟨_, rfl⟩
              have hP : va_P D vwCl [(aP, .inl (cB, 400, .inl ft)), (h, oX11 th aw ai ab ac hi re aP ta y80 en y81 de fa a5 sp av an ak ne aW aC ag aT aN aF), (aw, .inl (cI, 2179, .inl g99))] H := hP
              have hD : va_D A [(aP, .inl (cB, 400, .inl ft)), (h, oX11 th aw ai ab ac hi re aP ta y80 en y81 de fa a5 sp av an ak ne aW aC ag aT aN aF), (aw, .inl (cI, 2179, .inl g99))] := hD
              obtain ⟨k100, k101, k102, k103⟩ := hw
              refine lv_aload_n hx hb dX11_readMan_125 rfl (lv_at hl 5 rfl) ?_
              refine lv_iload_n hx hb dX11_readMan_126 rfl (lv_at hl 4 rfl) ?_
              refine lv_iconst (v := 4) hx hb dX11_readMan_127 (by decide) ?_
              refine lv_iconst (v := (-1)) hx hb dX11_readMan_128 (by decide) ?_
              refine kcallv (wc := [(h, oX11 th aw ai ab ac hi re aP ta y80 en y81 de fa a5 sp av an ak ne aW aC ag aT aN aF), (aw, .inl (cI, 2179, .inl g99))]) (wr := [(aP, .inl (cB, 400, .inl ft))]) hP hD hS hA [1, 2] [0] rfl rfl (by decide) (by decide) (by decide) (fun hPc hDc hFc => va_runV (As := [.int r1, .int 4, .int (-1)]) (rest := []) ⟨hx, hb, hml, hown, hts⟩ (r_setsMan4k l D cI cJ cB cC h th aw ai ab ac hi re aP ta y80 en y81 de fa a5 sp av an ak ne aW aC ag aT aN aF g99 r1 (-1) H.size k5 (rg_w (rg_lit (n := -1) (by decide)) (by decide)) k102 k100 k101) (cwV 3 hts gX11_readMan_X11_setsMan rfl rfl rfl ⟨rfl, hdX11_setsMan⟩ ⟨Nat.le_of_ble_eq_true rfl, Nat.le_of_ble_eq_true rfl⟩) ⟨kBlind, va_recv hK hPc (ci := 10) (q0 := 0) rfl rfl, fun U hU hW => ⟨rfl, by rw [hU], hN.warm hW, hE.pass hS hFc hW hU, by rw [hU]; exact hPc, va_K.moved hW.alike hK, hDc⟩⟩ rfl rfl hl.1 rfl (lv_room (Nat.le_of_ble_eq_true rfl)) dX11_readMan_129 ⟨Nat.le_of_ble_eq_true rfl, Nat.le_of_ble_eq_true rfl⟩) (fun u H locs hw hP hD hS => ?_)
              obtain ⟨g104, rfl⟩ : ∃ z, z = u := ⟨_, rfl⟩
              have hP : va_P D vwCl [(aP, .inl (cB, 400, .inl ft)), (h, oX11 th aw ai ab ac hi re aP ta y80 en y81 de fa a5 sp av an ak ne aW aC ag aT aN aF), (aw, .inl (cI, 2179, .inl g104))] H := hP
              have hD : va_D A [(aP, .inl (cB, 400, .inl ft)), (h, oX11 th aw ai ab ac hi re aP ta y80 en y81 de fa a5 sp av an ak ne aW aC ag aT aN aF), (aw, .inl (cI, 2179, .inl g104))] := hD
              obtain ⟨k105, k106, k107, k108⟩ := hw
              refine lv_aload_n hx hb dX11_readMan_132 rfl (lv_at hl 5 rfl) ?_
              refine va_get (D := D) (ci := 10) (v := .ref aw) (C := RX11) (T := TX11) (N := 26) hx hb hts iG_X11 hown hK hP 1 rfl rfl 1 (by decide) (hts _ w5_3) (fun _ h9 => h9) rfl dX11_readMan_133 ?_
              refine lv_iconst (v := 0) hx hb dX11_readMan_136 (by decide) ?_
              refine lv_dup2_11 hx hb dX11_readMan_137 rfl rfl ?_
              refine va_iald hx hb hK hP 2 0 rfl rfl (rg_in (rg_lit (n := 0) (by decide)) (by decide)) dX11_readMan_138 ?_
              refine lv_topi (fun x109 ex109 => ?_)
              have k110 : Rg x109 0 9 := (by have q1 : x109 = r1 := (by rw [ex109]; exact ((((k108.trans k103).trans k98).trans k93).trans k88).trans k2.symm); rw [q1]; exact k5)
              clear ex109
              refine lv_iconst (v := 1) hx hb dX11_readMan_139 (by decide) ?_
              refine lv_iadd hx hb dX11_readMan_140 ?_
              refine lv_topi (fun x111 ex111 => ?_)
              have k112 : Rg x111 1 10 := rg_add ex111 k110 (rg_lit (n := 1) (by decide)) (by decide)
              refine va_iast hx hb hK hP hD hS 2 0 rfl rfl (rg_in (rg_lit (n := 0) (by decide)) (by decide)) dX11_readMan_141 (fun H locs hP hD hS => ?_)
              have hP : va_P D vwCl [(aP, .inl (cB, 400, .inl ft)), (h, oX11 th aw ai ab ac hi re aP ta y80 en y81 de fa a5 sp av an ak ne aW aC ag aT aN aF), (aw, .inl (cI, 2179, .inl (upd g104 (0 : Int32).toNatClampNeg x111)))] H := hP
              have hD : va_D A [(aP, .inl (cB, 400, .inl ft)), (h, oX11 th aw ai ab ac hi re aP ta y80 en y81 de fa a5 sp av an ak ne aW aC ag aT aN aF), (aw, .inl (cI, 2179, .inl (upd g104 (0 : Int32).toNatClampNeg x111)))] := hD
              have k114 : wB (upd g104 (0 : Int32).toNatClampNeg x111) := wB_lo k105 k107 (rg_lit (n := 0) (by decide)) (by decide)
              have k115 : wL (upd g104 (0 : Int32).toNatClampNeg x111) := wL_out k106 (rg_lit (n := 0) (by decide)) (by decide)
              have k116 : wW (upd g104 (0 : Int32).toNatClampNeg x111) := wW_w0 k107 (rg_w k112 (by decide))
              generalize hge : (upd g104 (0 : Int32).toNatClampNeg x111) = g113 at hP hD k114 k115 k116
              clear hge
              refine lv_iconst (v := 1) hx hb dX11_readMan_142 (by decide) ?_
              have hP9 := hP.sub (ws' := [(h, oX11 th aw ai ab ac hi re aP ta y80 en y81 de fa a5 sp av an ak ne aW aC ag aT aN aF), (aw, .inl (cI, 2179, .inl g113)), (aP, .inl (cB, 400, .inl ft))]) [1, 2, 0] rfl
              have hD9 := hD.sub (ws' := [(h, oX11 th aw ai ab ac hi re aP ta y80 en y81 de fa a5 sp av an ak ne aW aC ag aT aN aF), (aw, .inl (cI, 2179, .inl g113)), (aP, .inl (cB, 400, .inl ft))]) [1, 2, 0] (by decide) rfl
              exact W.zret (v := 1) hx hb hr (by decide) (fun t ht hW => ⟨⟨1, (y80, y81, g113), rfl, ⟨hy80, k114, k115, k116, (Or.inr rfl)⟩, by rw [ht]; exact hP9, va_K.moved hW.alike hK, hD9⟩, hS.F ht⟩) hS.2.2 dX11_readMan_143
            · skip
              have k117 : Rg z79 (-1) (-1) := rg_l1 (nleI c82) hz79 (rg_lit (n := 0) (by decide)) (by decide)
              refine lv_iconst (v := 0) hx hb dX11_readMan_93 (by decide) ?_
              have hP9 := hP.sub (ws' := [(h, oX11 th aw ai ab ac hi re aP ta y80 en y81 de fa a5 sp av an ak ne aW aC ag aT aN aF), (aw, .inl (cI, 2179, .inl fw)), (aP, .inl (cB, 400, .inl ft))]) [1, 0, 2] rfl
              have hD9 := hD.sub (ws' := [(h, oX11 th aw ai ab ac hi re aP ta y80 en y81 de fa a5 sp av an ak ne aW aC ag aT aN aF), (aw, .inl (cI, 2179, .inl fw)), (aP, .inl (cB, 400, .inl ft))]) [1, 0, 2] (by decide) rfl
              exact W.zret (v := 0) hx hb hr (by decide) (fun t ht hW => ⟨⟨0, (y80, y81, fw), rfl, ⟨hy80, H_fw_B, H_fw_L, H_fw_W, (Or.inl rfl)⟩, by rw [ht]; exact hP9, va_K.moved hW.alike hK, hD9⟩, hS.F ht⟩) hS.2.2 dX11_readMan_94
          refine lv_if_eq (tgt := 85) hx hb dX11_readMan_75 (by decide) (fun c118 => ?_) (fun c118 => ?_)
          · skip
            have k119 : Rg r64 0 0 := rg_q1 (eqI c118) k65 (rg_lit (n := 0) (by decide)) (by decide)
            refine lv_iconst (v := (-1)) hx hb dX11_readMan_85 (by decide) ?_
            exact hJ86 ((-1 : Int32), x54, x55) _ _ _ ⟨(rg_w (rg_lit (n := -1) (by decide)) (by decide)), k56, k57, hP.sub (ws' := [(aw, .inl (cI, 2179, .inl fw)), (h, oX11 th aw ai ab ac hi re aP ta x54 en x55 de fa a5 sp av an ak ne aW aC ag aT aN aF), (aP, .inl (cB, 400, .inl ft))]) [0, 1, 2] rfl, hD.sub (ws' := [(aw, .inl (cI, 2179, .inl fw)), (h, oX11 th aw ai ab ac hi re aP ta x54 en x55 de fa a5 sp av an ak ne aW aC ag aT aN aF), (aP, .inl (cB, 400, .inl ft))]) [0, 1, 2] (by decide) rfl, hS, lv_sub (l' := [(4, .int z49), (3, .int z30), (2, .int r6), (1, .int r1), (0, .ref h)]) hl [0, 1, 2, 3, 4] rfl⟩
          · skip
            have k120 : Rg r64 1 1 := rg_n1 (neI c118) k65 (rg_lit (n := 0) (by decide)) (by decide)
            refine lv_aload_n hx hb dX11_readMan_78 rfl (lv_at hl 4 rfl) ?_
            refine kcalli (wc := [(h, oX11 th aw ai ab ac hi re aP ta x54 en x55 de fa a5 sp av an ak ne aW aC ag aT aN aF), (aP, .inl (cB, 400, .inl ft))]) (wr := [(aw, .inl (cI, 2179, .inl fw))]) hP hD hS hA [1, 2] [0] rfl rfl (by decide) (by decide) (by decide) (fun hPc hDc hFc => va_runV (As := []) (rest := []) ⟨hx, hb, hml, hown, hts⟩ (r_colour l D cI cJ cB cC h th aw ai ab ac hi re aP ta x54 en x55 de fa a5 sp av an ak ne aW aC ag aT aN aF ft H.size k56 H_en) (cwV 0 hts gX11_readMan_X11_colour rfl rfl rfl ⟨rfl, hdX11_colour⟩ ⟨Nat.le_of_ble_eq_true rfl, Nat.le_of_ble_eq_true rfl⟩) ⟨kBlind, va_recv hK hPc (ci := 10) (q0 := 0) rfl rfl, fun U hU hW => ⟨rfl, by rw [hU], hN.warm hW, hE.pass hS hFc hW hU, by rw [hU]; exact hPc, va_K.moved hW.alike hK, hDc⟩⟩ rfl rfl hl.1 rfl (lv_room (Nat.le_of_ble_eq_true rfl)) dX11_readMan_79 ⟨Nat.le_of_ble_eq_true rfl, Nat.le_of_ble_eq_true rfl⟩) (fun r121 u H locs hw hP hD hS => ?_)
            obtain ⟨x122, x123⟩ := u
            have hP : va_P D vwCl [(aw, .inl (cI, 2179, .inl fw)), (h, oX11 th aw ai ab ac hi re aP ta x122 en x123 de fa a5 sp av an ak ne aW aC ag aT aN aF), (aP, .inl (cB, 400, .inl ft))] H := hP
            have hD : va_D A [(aw, .inl (cI, 2179, .inl fw)), (h, oX11 th aw ai ab ac hi re aP ta x122 en x123 de fa a5 sp av an ak ne aW aC ag aT aN aF), (aP, .inl (cB, 400, .inl ft))] := hD
            obtain ⟨k124, k125, k126⟩ := hw
            refine lv_goto (tgt := 86) hx hb dX11_readMan_82 (by decide) ?_
            exact hJ86 (r121, x122, x123) _ _ _ ⟨k126, k124, k125, hP.sub (ws' := [(aw, .inl (cI, 2179, .inl fw)), (h, oX11 th aw ai ab ac hi re aP ta x122 en x123 de fa a5 sp av an ak ne aW aC ag aT aN aF), (aP, .inl (cB, 400, .inl ft))]) [0, 1, 2] rfl, hD.sub (ws' := [(aw, .inl (cI, 2179, .inl fw)), (h, oX11 th aw ai ab ac hi re aP ta x122 en x123 de fa a5 sp av an ak ne aW aC ag aT aN aF), (aP, .inl (cB, 400, .inl ft))]) [0, 1, 2] (by decide) rfl, hS, lv_sub (l' := [(4, .int z49), (3, .int z30), (2, .int r6), (1, .int r1), (0, .ref h)]) hl [0, 1, 2, 3, 4] rfl⟩
        · skip
          have k127 : Rg z49 (-1) (-1) := rg_l1 (nleI c52) hz49 (rg_lit (n := 0) (by decide)) (by decide)
          refine lv_iconst (v := 0) hx hb dX11_readMan_63 (by decide) ?_
          have hP9 := hP.sub (ws' := [(h, oX11 th aw ai ab ac hi re aP ta y50 en y51 de fa a5 sp av an ak ne aW aC ag aT aN aF), (aw, .inl (cI, 2179, .inl fw)), (aP, .inl (cB, 400, .inl ft))]) [1, 0, 2] rfl
          have hD9 := hD.sub (ws' := [(h, oX11 th aw ai ab ac hi re aP ta y50 en y51 de fa a5 sp av an ak ne aW aC ag aT aN aF), (aw, .inl (cI, 2179, .inl fw)), (aP, .inl (cB, 400, .inl ft))]) [1, 0, 2] (by decide) rfl
          exact W.zret (v := 0) hx hb hr (by decide) (fun t ht hW => ⟨⟨0, (y50, y51, fw), rfl, ⟨hy50, H_fw_B, H_fw_L, H_fw_W, (Or.inl rfl)⟩, by rw [ht]; exact hP9, va_K.moved hW.alike hK, hD9⟩, hS.F ht⟩) hS.2.2 dX11_readMan_64
      refine lv_if_ge (tgt := 47) hx hb dX11_readMan_40 (by decide) (fun c128 => ?_) (fun c128 => ?_)
      · skip
        have k129 : Rg z30 0 9 := rg_e2 (leI c128) (rg_lit (n := 0) (by decide)) hz30 (by decide)
        refine lv_aload_n hx hb dX11_readMan_47 rfl (lv_at hl 3 rfl) ?_
        obtain ⟨q130, q131, hR132, hT133⟩ := kTx_3 hE.2.2
        refine va_ldcS hx hb hown hR132 dX11_readMan_48 ?_
        refine lv_iconst (v := 0) hx hb dX11_readMan_50 (by decide) ?_
        refine lv_bipush (v := 9) hx hb dX11_readMan_51 (by decide) ?_
        refine kcalli (wc := [(h, oX11 th aw ai ab ac hi re aP ta y31 en y32 de fa a5 sp av an ak ne aW aC ag aT aN aF), (aP, .inl (cB, 400, .inl ft))]) (wr := [(aw, .inl (cI, 2179, .inl fw))]) hP hD hS hA [1, 2] [0] rfl rfl (by decide) (by decide) (by decide) (fun hPc hDc hFc => va_runV (As := [.ref q130, .int 0, .int 9]) (rest := []) ⟨hx, hb, hml, hown, hts⟩ (r_after_9 l D cI cJ cB cC h th aw ai ab ac hi re aP ta y31 en y32 de fa a5 sp av an ak ne aW aC ag aT aN aF ft q130 kSb3 q131 H.size hy31 H_en kSb3_le) (cwV 3 hts gX11_readMan_X11_after rfl rfl rfl ⟨rfl, hdX11_after⟩ ⟨Nat.le_of_ble_eq_true rfl, Nat.le_of_ble_eq_true rfl⟩) ⟨kBlindT, va_recv hK hPc (ci := 10) (q0 := 0) rfl rfl, fun U hU hW => ⟨rfl, by rw [hU], hN.warm hW, hE.pass hS hFc hW hU, hT133.pass hS hFc hW hU, by rw [hU]; exact hPc, va_K.moved hW.alike hK, hDc⟩⟩ rfl rfl hl.1 rfl (lv_room (Nat.le_of_ble_eq_true rfl)) dX11_readMan_53 ⟨Nat.le_of_ble_eq_true rfl, Nat.le_of_ble_eq_true rfl⟩) (fun r134 u H locs hw hP hD hS => ?_)
        obtain ⟨x135, x136⟩ := u
        have hP : va_P D vwCl [(aw, .inl (cI, 2179, .inl fw)), (h, oX11 th aw ai ab ac hi re aP ta x135 en x136 de fa a5 sp av an ak ne aW aC ag aT aN aF), (aP, .inl (cB, 400, .inl ft))] H := hP
        have hD : va_D A [(aw, .inl (cI, 2179, .inl fw)), (h, oX11 th aw ai ab ac hi re aP ta x135 en x136 de fa a5 sp av an ak ne aW aC ag aT aN aF), (aP, .inl (cB, 400, .inl ft))] := hD
        obtain ⟨k137, k138, k139⟩ := hw
        exact hJ56 (r134, x135, x136) _ _ _ ⟨k139, k137, k138, hP.sub (ws' := [(aw, .inl (cI, 2179, .inl fw)), (h, oX11 th aw ai ab ac hi re aP ta x135 en x136 de fa a5 sp av an ak ne aW aC ag aT aN aF), (aP, .inl (cB, 400, .inl ft))]) [0, 1, 2] rfl, hD.sub (ws' := [(aw, .inl (cI, 2179, .inl fw)), (h, oX11 th aw ai ab ac hi re aP ta x135 en x136 de fa a5 sp av an ak ne aW aC ag aT aN aF), (aP, .inl (cB, 400, .inl ft))]) [0, 1, 2] (by decide) rfl, hS, lv_sub (l' := [(3, .int z30), (2, .int r6), (1, .int r1), (0, .ref h)]) hl [0, 1, 2, 3] rfl⟩
      · skip
        have k140 : Rg z30 (-1) (-1) := rg_l1 (nleI c128) hz30 (rg_lit (n := 0) (by decide)) (by decide)
        refine lv_iconst (v := (-1)) hx hb dX11_readMan_43 (by decide) ?_
        refine lv_goto (tgt := 56) hx hb dX11_readMan_44 (by decide) ?_
        exact hJ56 ((-1 : Int32), y31, y32) _ _ _ ⟨(rg_w (rg_lit (n := -1) (by decide)) (by decide)), hy31, hy32, hP.sub (ws' := [(aw, .inl (cI, 2179, .inl fw)), (h, oX11 th aw ai ab ac hi re aP ta y31 en y32 de fa a5 sp av an ak ne aW aC ag aT aN aF), (aP, .inl (cB, 400, .inl ft))]) [0, 1, 2] rfl, hD.sub (ws' := [(aw, .inl (cI, 2179, .inl fw)), (h, oX11 th aw ai ab ac hi re aP ta y31 en y32 de fa a5 sp av an ak ne aW aC ag aT aN aF), (aP, .inl (cB, 400, .inl ft))]) [0, 1, 2] (by decide) rfl, hS, lv_sub (l' := [(3, .int z30), (2, .int r6), (1, .int r1), (0, .ref h)]) hl [0, 1, 2, 3] rfl⟩
    refine lv_if_ge (tgt := 29) hx hb dX11_readMan_22 (by decide) (fun c141 => ?_) (fun c141 => ?_)
    · skip
      have k142 : Rg r6 0 99 := rg_e2 (leI c141) (rg_lit (n := 0) (by decide)) k11 (by decide)
      refine lv_aload_n hx hb dX11_readMan_29 rfl (lv_at hl 2 rfl) ?_
      obtain ⟨q143, q144, hR145, hT146⟩ := kTx_2 hE.2.2
      refine va_ldcS hx hb hown hR145 dX11_readMan_30 ?_
      refine lv_iconst (v := 0) hx hb dX11_readMan_32 (by decide) ?_
      refine lv_bipush (v := 9) hx hb dX11_readMan_33 (by decide) ?_
      refine kcalli (wc := [(h, oX11 th aw ai ab ac hi re aP ta x7 en x8 de fa a5 sp av an ak ne aW aC ag aT aN aF), (aP, .inl (cB, 400, .inl ft))]) (wr := [(aw, .inl (cI, 2179, .inl fw))]) hP hD hS hA [1, 2] [0] rfl rfl (by decide) (by decide) (by decide) (fun hPc hDc hFc => va_runV (As := [.ref q143, .int 0, .int 9]) (rest := []) ⟨hx, hb, hml, hown, hts⟩ (r_after_9 l D cI cJ cB cC h th aw ai ab ac hi re aP ta x7 en x8 de fa a5 sp av an ak ne aW aC ag aT aN aF ft q143 kSb2 q144 H.size k9 H_en kSb2_le) (cwV 3 hts gX11_readMan_X11_after rfl rfl rfl ⟨rfl, hdX11_after⟩ ⟨Nat.le_of_ble_eq_true rfl, Nat.le_of_ble_eq_true rfl⟩) ⟨kBlindT, va_recv hK hPc (ci := 10) (q0 := 0) rfl rfl, fun U hU hW => ⟨rfl, by rw [hU], hN.warm hW, hE.pass hS hFc hW hU, hT146.pass hS hFc hW hU, by rw [hU]; exact hPc, va_K.moved hW.alike hK, hDc⟩⟩ rfl rfl hl.1 rfl (lv_room (Nat.le_of_ble_eq_true rfl)) dX11_readMan_35 ⟨Nat.le_of_ble_eq_true rfl, Nat.le_of_ble_eq_true rfl⟩) (fun r147 u H locs hw hP hD hS => ?_)
      obtain ⟨x148, x149⟩ := u
      have hP : va_P D vwCl [(aw, .inl (cI, 2179, .inl fw)), (h, oX11 th aw ai ab ac hi re aP ta x148 en x149 de fa a5 sp av an ak ne aW aC ag aT aN aF), (aP, .inl (cB, 400, .inl ft))] H := hP
      have hD : va_D A [(aw, .inl (cI, 2179, .inl fw)), (h, oX11 th aw ai ab ac hi re aP ta x148 en x149 de fa a5 sp av an ak ne aW aC ag aT aN aF), (aP, .inl (cB, 400, .inl ft))] := hD
      obtain ⟨k150, k151, k152⟩ := hw
      exact hJ38 (r147, x148, x149) _ _ _ ⟨k152, k150, k151, hP.sub (ws' := [(aw, .inl (cI, 2179, .inl fw)), (h, oX11 th aw ai ab ac hi re aP ta x148 en x149 de fa a5 sp av an ak ne aW aC ag aT aN aF), (aP, .inl (cB, 400, .inl ft))]) [0, 1, 2] rfl, hD.sub (ws' := [(aw, .inl (cI, 2179, .inl fw)), (h, oX11 th aw ai ab ac hi re aP ta x148 en x149 de fa a5 sp av an ak ne aW aC ag aT aN aF), (aP, .inl (cB, 400, .inl ft))]) [0, 1, 2] (by decide) rfl, hS, lv_sub (l' := [(2, .int r6), (1, .int r1), (0, .ref h)]) hl [0, 1, 2] rfl⟩
    · skip
      have k153 : Rg r6 (-1) (-1) := rg_l1 (nleI c141) k11 (rg_lit (n := 0) (by decide)) (by decide)
      refine lv_iconst (v := (-1)) hx hb dX11_readMan_25 (by decide) ?_
      refine lv_goto (tgt := 38) hx hb dX11_readMan_26 (by decide) ?_
      exact hJ38 ((-1 : Int32), x7, x8) _ _ _ ⟨(rg_w (rg_lit (n := -1) (by decide)) (by decide)), k9, k10, hP.sub (ws' := [(aw, .inl (cI, 2179, .inl fw)), (h, oX11 th aw ai ab ac hi re aP ta x7 en x8 de fa a5 sp av an ak ne aW aC ag aT aN aF), (aP, .inl (cB, 400, .inl ft))]) [0, 1, 2] rfl, hD.sub (ws' := [(aw, .inl (cI, 2179, .inl fw)), (h, oX11 th aw ai ab ac hi re aP ta x7 en x8 de fa a5 sp av an ak ne aW aC ag aT aN aF), (aP, .inl (cB, 400, .inl ft))]) [0, 1, 2] (by decide) rfl, hS, lv_sub (l' := [(2, .int r6), (1, .int r1), (0, .ref h)]) hl [0, 1, 2] rfl⟩
  · skip
    have k154 : Rg r1 10 10 := rg_q1 (eqI c4) k3 (rg_lit (n := 10) (by decide)) (by decide)
    refine lv_iconst (v := 0) hx hb dX11_readMan_11 (by decide) ?_
    have hP9 := hP.sub (ws' := [(h, oX11 th aw ai ab ac hi re aP ta po en be de fa a5 sp av an ak ne aW aC ag aT aN aF), (aw, .inl (cI, 2179, .inl fw)), (aP, .inl (cB, 400, .inl ft))]) [0, 1, 2] rfl
    have hD9 := hD.sub (ws' := [(h, oX11 th aw ai ab ac hi re aP ta po en be de fa a5 sp av an ak ne aW aC ag aT aN aF), (aw, .inl (cI, 2179, .inl fw)), (aP, .inl (cB, 400, .inl ft))]) [0, 1, 2] (by decide) rfl
    exact W.zret (v := 0) hx hb hr (by decide) (fun t ht hW => ⟨⟨0, (po, be, fw), rfl, ⟨H_po, H_fw_B, H_fw_L, H_fw_W, (Or.inl rfl)⟩, by rw [ht]; exact hP9, va_K.moved hW.alike hK, hD9⟩, hS.F ht⟩) hS.2.2 dX11_readMan_12

