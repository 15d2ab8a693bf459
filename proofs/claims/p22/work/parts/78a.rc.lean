set_option maxHeartbeats 4000000 in
set_option maxRecDepth 100000 in
/-- reference: sets -/
theorem r_sets0x (l : Launch) (D : va_G) (cI cJ cB cC : ClassId) (h : Nat) (th : Int32) (aw : Nat) (ai : Nat) (ab : Nat) (ac : Nat) (hi : Int32) (re : Int32) (aP : Nat) (ta : Int32) (po : Int32) (en : Int32) (be : Int32) (de : Int32) (fa : Int32) (a5 : Nat) (sp : Int32) (av : Nat) (an : Nat) (ak : Nat) (ne : Int32) (aW : Nat) (aC : Nat) (ag : Nat) (aT : Nat) (aN : Nat) (aF : Nat) (fw : Nat → Int32) (mm : Int32) (v : Int32) (sz : Nat) (H_mm : Rg mm 0 11) : Met l yX11_sets kwX11_sets ({ frames := 0, cells := 0, slots := 0, locals := 0 } : Room) (kPre D (kT cI cJ cB cC) sz [(h, oX11 th aw ai ab ac hi re aP ta po en be de fa a5 sp av an ak ne aW aC ag aT aN aF), (aw, kcI cI 2179 fw)] [.ref h, .int mm, .int 0, .int v]) (va_Qv (fun (_ : Unit) => True) (fun (_ : Unit) (t : State) => kB D (kT cI cJ cB cC) (va_A [(h, oX11 th aw ai ab ac hi re aP ta po en be de fa a5 sp av an ak ne aW aC ag aT aN aF), (aw, kcI cI 2179 fw)] sz) [(h, oX11 th aw ai ab ac hi re aP ta po en be de fa a5 sp av an ak ne aW aC ag aT aN aF), (aw, kcI cI 2179 (upd fw (61 + 7 * cN mm) v))] t) (va_A [(h, oX11 th aw ai ab ac hi re aP ta po en be de fa a5 sp av an ak ne aW aC ag aT aN aF), (aw, kcI cI 2179 fw)] sz)) 0 0 (va_A [(h, oX11 th aw ai ab ac hi re aP ta po en be de fa a5 sp av an ak ne aW aC ag aT aN aF), (aw, kcI cI 2179 fw)] sz) := by
  refine Met.ofW (cc := cX11_sets) (maxL := 4) (ret := none) (by decide) rfl ?_
  intro p e s m args below meth c s₁ B hml hv
  obtain ⟨rfl, hsz, hN, hE, hP, hK, hD0⟩ := hv
  have hx := B.exec
  have hb := B.bytes
  have hr := B.returns
  have hts := fun (w : Cond) (h : w ∈ kG) => atoms_spec (ws := kwX11_sets) B.pre w (List.mem_cons_of_mem _ h)
  have hown : s.vm.findClass RX11 = some m.cls := findClass_of_methodNamed B.named
  subst hsz
  have hD := hD0.self (sz := s.heap.size)
  generalize hAe : va_A [(h, oX11 th aw ai ab ac hi re aP ta po en be de fa a5 sp av an ak ne aW aC ag aT aN aF), (aw, kcI cI 2179 fw)] s.heap.size = A at hD hE ⊢
  have hA : ∀ q : Nat, s.heap.size ≤ q → A q := fun q h => by rw [← hAe]; exact Or.inr h
  have hl := lv_entry ([.ref h, .int mm, .int 0, .int v]) (n := 4) (Nat.le_of_ble_eq_true rfl)
  rw [lg_entry_eq]
  generalize (lg_sl ([.ref h, .int mm, .int 0, .int v]) ++ List.replicate (4 - (lg_sl ([.ref h, .int mm, .int 0, .int v])).length) Slot.unset).toArray = ls at hl ⊢
  have hl : lv_has ls 4 [(0, .ref h), (1, .int mm), (2, .int 0), (3, .int v)] := hl
  obtain ⟨H, hH0⟩ : ∃ H, H = s.heap := ⟨_, rfl⟩
  have hS : va_S A s.heap H [] := by rw [hH0]; exact va_S.rf
  have hP : va_P D vwCl [(h, oX11 th aw ai ab ac hi re aP ta po en be de fa a5 sp av an ak ne aW aC ag aT aN aF), (aw, kcI cI 2179 fw)] H := by rw [hH0]; exact hP
  refine kHeap hH0 ?_
  clear hH0
  refine lv_aload_n hx hb dX11_sets_0 rfl (lv_at hl 0 rfl) ?_
  refine va_get (D := D) (ci := 10) (v := .ref aw) (C := RX11) (T := TX11) (N := 26) hx hb hts iG_X11 hown hK hP 0 rfl rfl 1 (by decide) (hts _ w5_3) (fun _ h9 => h9) rfl dX11_sets_1 ?_
  refine lv_bipush (v := 61) hx hb dX11_sets_4 (by decide) ?_
  refine lv_bipush (v := 7) hx hb dX11_sets_6 (by decide) ?_
  refine lv_iload_n hx hb dX11_sets_8 rfl (lv_at hl 1 rfl) ?_
  refine lv_imul hx hb dX11_sets_9 ?_
  refine lv_topi (fun x1 ex1 => ?_)
  have tx1 : x1.toInt = 7 * mm.toInt := ti_mul ex1 (rg_lit (n := 7) (by decide)) H_mm (by decide) (by decide) rfl
  have k2 : Rg x1 0 77 := rg_mul ex1 (rg_lit (n := 7) (by decide)) H_mm (by decide)
  refine lv_iadd hx hb dX11_sets_10 ?_
  refine lv_topi (fun x3 ex3 => ?_)
  have tx3 : x3.toInt = 61 + x1.toInt := ti_add ex3 (rg_lit (n := 61) (by decide)) k2 (by decide) (by decide) rfl
  have k4 : Rg x3 61 138 := rg_add ex3 (rg_lit (n := 61) (by decide)) k2 (by decide)
  refine lv_iload_n hx hb dX11_sets_11 rfl (lv_at hl 2 rfl) ?_
  refine lv_iadd hx hb dX11_sets_12 ?_
  refine lv_topi (fun x5 ex5 => ?_)
  have tx5 : x5.toInt = x3.toInt + 0 := ti_add ex5 k4 (rg_lit (n := 0) (by decide)) (by decide) rfl (by decide)
  have k6 : Rg x5 61 138 := rg_add ex5 k4 (rg_lit (n := 0) (by decide)) (by decide)
  refine lv_iload_n hx hb dX11_sets_13 rfl (lv_at hl 3 rfl) ?_
  refine va_iast hx hb hK hP hD hS 1 0 rfl rfl (rg_in k6 (by decide)) dX11_sets_14 (fun H locs hP hD hS => ?_)
  have hP : va_P D vwCl [(h, oX11 th aw ai ab ac hi re aP ta po en be de fa a5 sp av an ak ne aW aC ag aT aN aF), (aw, kcI cI 2179 (upd fw x5.toNatClampNeg v))] H := hP
  have hD : va_D A [(h, oX11 th aw ai ab ac hi re aP ta po en be de fa a5 sp av an ak ne aW aC ag aT aN aF), (aw, kcI cI 2179 (upd fw x5.toNatClampNeg v))] := hD
  have k7 : x5.toNatClampNeg = 61 + 7 * cN mm := cl_of k6 (by decide) (by (try simp only [cN]); have q9 := H_mm; unfold Rg at *; omega)
  rw [k7] at hP hD
  have hP9 := hP.sub (ws' := [(h, oX11 th aw ai ab ac hi re aP ta po en be de fa a5 sp av an ak ne aW aC ag aT aN aF), (aw, kcI cI 2179 (upd fw (61 + 7 * cN mm) v))]) [0, 1] rfl
  have hD9 := hD.sub (ws' := [(h, oX11 th aw ai ab ac hi re aP ta po en be de fa a5 sp av an ak ne aW aC ag aT aN aF), (aw, kcI cI 2179 (upd fw (61 + 7 * cN mm) v))]) [0, 1] (by decide) rfl
  exact W.vret hx hb hr (fun t ht hW => ⟨⟨(), rfl, trivial, by rw [ht]; exact hP9, va_K.moved hW.alike hK, hD9⟩, hS.F ht⟩) hS.2.2 dX11_sets_15

set_option maxHeartbeats 4000000 in
set_option maxRecDepth 100000 in
/-- reference: sets -/
theorem r_sets1x (l : Launch) (D : va_G) (cI cJ cB cC : ClassId) (h : Nat) (th : Int32) (aw : Nat) (ai : Nat) (ab : Nat) (ac : Nat) (hi : Int32) (re : Int32) (aP : Nat) (ta : Int32) (po : Int32) (en : Int32) (be : Int32) (de : Int32) (fa : Int32) (a5 : Nat) (sp : Int32) (av : Nat) (an : Nat) (ak : Nat) (ne : Int32) (aW : Nat) (aC : Nat) (ag : Nat) (aT : Nat) (aN : Nat) (aF : Nat) (fw : Nat → Int32) (mm : Int32) (v : Int32) (sz : Nat) (H_mm : Rg mm 0 11) : Met l yX11_sets kwX11_sets ({ frames := 0, cells := 0, slots := 0, locals := 0 } : Room) (kPre D (kT cI cJ cB cC) sz [(h, oX11 th aw ai ab ac hi re aP ta po en be de fa a5 sp av an ak ne aW aC ag aT aN aF), (aw, kcI cI 2179 fw)] [.ref h, .int mm, .int 1, .int v]) (va_Qv (fun (_ : Unit) => True) (fun (_ : Unit) (t : State) => kB D (kT cI cJ cB cC) (va_A [(h, oX11 th aw ai ab ac hi re aP ta po en be de fa a5 sp av an ak ne aW aC ag aT aN aF), (aw, kcI cI 2179 fw)] sz) [(h, oX11 th aw ai ab ac hi re aP ta po en be de fa a5 sp av an ak ne aW aC ag aT aN aF), (aw, kcI cI 2179 (upd fw (62 + 7 * cN mm) v))] t) (va_A [(h, oX11 th aw ai ab ac hi re aP ta po en be de fa a5 sp av an ak ne aW aC ag aT aN aF), (aw, kcI cI 2179 fw)] sz)) 0 0 (va_A [(h, oX11 th aw ai ab ac hi re aP ta po en be de fa a5 sp av an ak ne aW aC ag aT aN aF), (aw, kcI cI 2179 fw)] sz) := by
  refine Met.ofW (cc := cX11_sets) (maxL := 4) (ret := none) (by decide) rfl ?_
  intro p e s m args below meth c s₁ B hml hv
  obtain ⟨rfl, hsz, hN, hE, hP, hK, hD0⟩ := hv
  have hx := B.exec
  have hb := B.bytes
  have hr := B.returns
  have hts := fun (w : Cond) (h : w ∈ kG) => atoms_spec (ws := kwX11_sets) B.pre w (List.mem_cons_of_mem _ h)
  have hown : s.vm.findClass RX11 = some m.cls := findClass_of_methodNamed B.named
  subst hsz
  have hD := hD0.self (sz := s.heap.size)
  generalize hAe : va_A [(h, oX11 th aw ai ab ac hi re aP ta po en be de fa a5 sp av an ak ne aW aC ag aT aN aF), (aw, kcI cI 2179 fw)] s.heap.size = A at hD hE ⊢
  have hA : ∀ q : Nat, s.heap.size ≤ q → A q := fun q h => by rw [← hAe]; exact Or.inr h
  have hl := lv_entry ([.ref h, .int mm, .int 1, .int v]) (n := 4) (Nat.le_of_ble_eq_true rfl)
  rw [lg_entry_eq]
  generalize (lg_sl ([.ref h, .int mm, .int 1, .int v]) ++ List.replicate (4 - (lg_sl ([.ref h, .int mm, .int 1, .int v])).length) Slot.unset).toArray = ls at hl ⊢
  have hl : lv_has ls 4 [(0, .ref h), (1, .int mm), (2, .int 1), (3, .int v)] := hl
  obtain ⟨H, hH0⟩ : ∃ H, H = s.heap := ⟨_, rfl⟩
  have hS : va_S A s.heap H [] := by rw [hH0]; exact va_S.rf
  have hP : va_P D vwCl [(h, oX11 th aw ai ab ac hi re aP ta po en be de fa a5 sp av an ak ne aW aC ag aT aN aF), (aw, kcI cI 2179 fw)] H := by rw [hH0]; exact hP
  refine kHeap hH0 ?_
  clear hH0
  refine lv_aload_n hx hb dX11_sets_0 rfl (lv_at hl 0 rfl) ?_
  refine va_get (D := D) (ci := 10) (v := .ref aw) (C := RX11) (T := TX11) (N := 26) hx hb hts iG_X11 hown hK hP 0 rfl rfl 1 (by decide) (hts _ w5_3) (fun _ h9 => h9) rfl dX11_sets_1 ?_
  refine lv_bipush (v := 61) hx hb dX11_sets_4 (by decide) ?_
  refine lv_bipush (v := 7) hx hb dX11_sets_6 (by decide) ?_
  refine lv_iload_n hx hb dX11_sets_8 rfl (lv_at hl 1 rfl) ?_
  refine lv_imul hx hb dX11_sets_9 ?_
  refine lv_topi (fun x1 ex1 => ?_)
  have tx1 : x1.toInt = 7 * mm.toInt := ti_mul ex1 (rg_lit (n := 7) (by decide)) H_mm (by decide) (by decide) rfl
  have k2 : Rg x1 0 77 := rg_mul ex1 (rg_lit (n := 7) (by decide)) H_mm (by decide)
  refine lv_iadd hx hb dX11_sets_10 ?_
  refine lv_topi (fun x3 ex3 => ?_)
  have tx3 : x3.toInt = 61 + x1.toInt := ti_add ex3 (rg_lit (n := 61) (by decide)) k2 (by decide) (by decide) rfl
  have k4 : Rg x3 61 138 := rg_add ex3 (rg_lit (n := 61) (by decide)) k2 (by decide)
  refine lv_iload_n hx hb dX11_sets_11 rfl (lv_at hl 2 rfl) ?_
  refine lv_iadd hx hb dX11_sets_12 ?_
  refine lv_topi (fun x5 ex5 => ?_)
  have tx5 : x5.toInt = x3.toInt + 1 := ti_add ex5 k4 (rg_lit (n := 1) (by decide)) (by decide) rfl (by decide)
  have k6 : Rg x5 62 139 := rg_add ex5 k4 (rg_lit (n := 1) (by decide)) (by decide)
  refine lv_iload_n hx hb dX11_sets_13 rfl (lv_at hl 3 rfl) ?_
  refine va_iast hx hb hK hP hD hS 1 0 rfl rfl (rg_in k6 (by decide)) dX11_sets_14 (fun H locs hP hD hS => ?_)
  have hP : va_P D vwCl [(h, oX11 th aw ai ab ac hi re aP ta po en be de fa a5 sp av an ak ne aW aC ag aT aN aF), (aw, kcI cI 2179 (upd fw x5.toNatClampNeg v))] H := hP
  have hD : va_D A [(h, oX11 th aw ai ab ac hi re aP ta po en be de fa a5 sp av an ak ne aW aC ag aT aN aF), (aw, kcI cI 2179 (upd fw x5.toNatClampNeg v))] := hD
  have k7 : x5.toNatClampNeg = 62 + 7 * cN mm := cl_of k6 (by decide) (by (try simp only [cN]); have q9 := H_mm; unfold Rg at *; omega)
  rw [k7] at hP hD
  have hP9 := hP.sub (ws' := [(h, oX11 th aw ai ab ac hi re aP ta po en be de fa a5 sp av an ak ne aW aC ag aT aN aF), (aw, kcI cI 2179 (upd fw (62 + 7 * cN mm) v))]) [0, 1] rfl
  have hD9 := hD.sub (ws' := [(h, oX11 th aw ai ab ac hi re aP ta po en be de fa a5 sp av an ak ne aW aC ag aT aN aF), (aw, kcI cI 2179 (upd fw (62 + 7 * cN mm) v))]) [0, 1] (by decide) rfl
  exact W.vret hx hb hr (fun t ht hW => ⟨⟨(), rfl, trivial, by rw [ht]; exact hP9, va_K.moved hW.alike hK, hD9⟩, hS.F ht⟩) hS.2.2 dX11_sets_15

set_option maxHeartbeats 4000000 in
set_option maxRecDepth 100000 in
/-- reference: sets -/
theorem r_sets2x (l : Launch) (D : va_G) (cI cJ cB cC : ClassId) (h : Nat) (th : Int32) (aw : Nat) (ai : Nat) (ab : Nat) (ac : Nat) (hi : Int32) (re : Int32) (aP : Nat) (ta : Int32) (po : Int32) (en : Int32) (be : Int32) (de : Int32) (fa : Int32) (a5 : Nat) (sp : Int32) (av : Nat) (an : Nat) (ak : Nat) (ne : Int32) (aW : Nat) (aC : Nat) (ag : Nat) (aT : Nat) (aN : Nat) (aF : Nat) (fw : Nat → Int32) (mm : Int32) (v : Int32) (sz : Nat) (H_mm : Rg mm 0 11) : Met l yX11_sets kwX11_sets ({ frames := 0, cells := 0, slots := 0, locals := 0 } : Room) (kPre D (kT cI cJ cB cC) sz [(h, oX11 th aw ai ab ac hi re aP ta po en be de fa a5 sp av an ak ne aW aC ag aT aN aF), (aw, kcI cI 2179 fw)] [.ref h, .int mm, .int 2, .int v]) (va_Qv (fun (_ : Unit) => True) (fun (_ : Unit) (t : State) => kB D (kT cI cJ cB cC) (va_A [(h, oX11 th aw ai ab ac hi re aP ta po en be de fa a5 sp av an ak ne aW aC ag aT aN aF), (aw, kcI cI 2179 fw)] sz) [(h, oX11 th aw ai ab ac hi re aP ta po en be de fa a5 sp av an ak ne aW aC ag aT aN aF), (aw, kcI cI 2179 (upd fw (63 + 7 * cN mm) v))] t) (va_A [(h, oX11 th aw ai ab ac hi re aP ta po en be de fa a5 sp av an ak ne aW aC ag aT aN aF), (aw, kcI cI 2179 fw)] sz)) 0 0 (va_A [(h, oX11 th aw ai ab ac hi re aP ta po en be de fa a5 sp av an ak ne aW aC ag aT aN aF), (aw, kcI cI 2179 fw)] sz) := by
  refine Met.ofW (cc := cX11_sets) (maxL := 4) (ret := none) (by decide) rfl ?_
  intro p e s m args below meth c s₁ B hml hv
  obtain ⟨rfl, hsz, hN, hE, hP, hK, hD0⟩ := hv
  have hx := B.exec
  have hb := B.bytes
  have hr := B.returns
  have hts := fun (w : Cond) (h : w ∈ kG) => atoms_spec (ws := kwX11_sets) B.pre w (List.mem_cons_of_mem _ h)
  have hown : s.vm.findClass RX11 = some m.cls := findClass_of_methodNamed B.named
  subst hsz
  have hD := hD0.self (sz := s.heap.size)
  generalize hAe : va_A [(h, oX11 th aw ai ab ac hi re aP ta po en be de fa a5 sp av an ak ne aW aC ag aT aN aF), (aw, kcI cI 2179 fw)] s.heap.size = A at hD hE ⊢
  have hA : ∀ q : Nat, s.heap.size ≤ q → A q := fun q h => by rw [← hAe]; exact Or.inr h
  have hl := lv_entry ([.ref h, .int mm, .int 2, .int v]) (n := 4) (Nat.le_of_ble_eq_true rfl)
  rw [lg_entry_eq]
  generalize (lg_sl ([.ref h, .int mm, .int 2, .int v]) ++ List.replicate (4 - (lg_sl ([.ref h, .int mm, .int 2, .int v])).length) Slot.unset).toArray = ls at hl ⊢
  have hl : lv_has ls 4 [(0, .ref h), (1, .int mm), (2, .int 2), (3, .int v)] := hl
  obtain ⟨H, hH0⟩ : ∃ H, H = s.heap := ⟨_, rfl⟩
  have hS : va_S A s.heap H [] := by rw [hH0]; exact va_S.rf
  have hP : va_P D vwCl [(h, oX11 th aw ai ab ac hi re aP ta po en be de fa a5 sp av an ak ne aW aC ag aT aN aF), (aw, kcI cI 2179 fw)] H := by rw [hH0]; exact hP
  refine kHeap hH0 ?_
  clear hH0
  refine lv_aload_n hx hb dX11_sets_0 rfl (lv_at hl 0 rfl) ?_
  refine va_get (D := D) (ci := 10) (v := .ref aw) (C := RX11) (T := TX11) (N := 26) hx hb hts iG_X11 hown hK hP 0 rfl rfl 1 (by decide) (hts _ w5_3) (fun _ h9 => h9) rfl dX11_sets_1 ?_
  refine lv_bipush (v := 61) hx hb dX11_sets_4 (by decide) ?_
  refine lv_bipush (v := 7) hx hb dX11_sets_6 (by decide) ?_
  refine lv_iload_n hx hb dX11_sets_8 rfl (lv_at hl 1 rfl) ?_
  refine lv_imul hx hb dX11_sets_9 ?_
  refine lv_topi (fun x1 ex1 => ?_)
  have tx1 : x1.toInt = 7 * mm.toInt := ti_mul ex1 (rg_lit (n := 7) (by decide)) H_mm (by decide) (by decide) rfl
  have k2 : Rg x1 0 77 := rg_mul ex1 (rg_lit (n := 7) (by decide)) H_mm (by decide)
  refine lv_iadd hx hb dX11_sets_10 ?_
  refine lv_topi (fun x3 ex3 => ?_)
  have tx3 : x3.toInt = 61 + x1.toInt := ti_add ex3 (rg_lit (n := 61) (by decide)) k2 (by decide) (by decide) rfl
  have k4 : Rg x3 61 138 := rg_add ex3 (rg_lit (n := 61) (by decide)) k2 (by decide)
  refine lv_iload_n hx hb dX11_sets_11 rfl (lv_at hl 2 rfl) ?_
  refine lv_iadd hx hb dX11_sets_12 ?_
  refine lv_topi (fun x5 ex5 => ?_)
  have tx5 : x5.toInt = x3.toInt + 2 := ti_add ex5 k4 (rg_lit (n := 2) (by decide)) (by decide) rfl (by decide)
  have k6 : Rg x5 63 140 := rg_add ex5 k4 (rg_lit (n := 2) (by decide)) (by decide)
  refine lv_iload_n hx hb dX11_sets_13 rfl (lv_at hl 3 rfl) ?_
  refine va_iast hx hb hK hP hD hS 1 0 rfl rfl (rg_in k6 (by decide)) dX11_sets_14 (fun H locs hP hD hS => ?_)
  have hP : va_P D vwCl [(h, oX11 th aw ai ab ac hi re aP ta po en be de fa a5 sp av an ak ne aW aC ag aT aN aF), (aw, kcI cI 2179 (upd fw x5.toNatClampNeg v))] H := hP
  have hD : va_D A [(h, oX11 th aw ai ab ac hi re aP ta po en be de fa a5 sp av an ak ne aW aC ag aT aN aF), (aw, kcI cI 2179 (upd fw x5.toNatClampNeg v))] := hD
  have k7 : x5.toNatClampNeg = 63 + 7 * cN mm := cl_of k6 (by decide) (by (try simp only [cN]); have q9 := H_mm; unfold Rg at *; omega)
  rw [k7] at hP hD
  have hP9 := hP.sub (ws' := [(h, oX11 th aw ai ab ac hi re aP ta po en be de fa a5 sp av an ak ne aW aC ag aT aN aF), (aw, kcI cI 2179 (upd fw (63 + 7 * cN mm) v))]) [0, 1] rfl
  have hD9 := hD.sub (ws' := [(h, oX11 th aw ai ab ac hi re aP ta po en be de fa a5 sp av an ak ne aW aC ag aT aN aF), (aw, kcI cI 2179 (upd fw (63 + 7 * cN mm) v))]) [0, 1] (by decide) rfl
  exact W.vret hx hb hr (fun t ht hW => ⟨⟨(), rfl, trivial, by rw [ht]; exact hP9, va_K.moved hW.alike hK, hD9⟩, hS.F ht⟩) hS.2.2 dX11_sets_15

set_option maxHeartbeats 4000000 in
set_option maxRecDepth 100000 in
/-- reference: sets -/
theorem r_sets3x (l : Launch) (D : va_G) (cI cJ cB cC : ClassId) (h : Nat) (th : Int32) (aw : Nat) (ai : Nat) (ab : Nat) (ac : Nat) (hi : Int32) (re : Int32) (aP : Nat) (ta : Int32) (po : Int32) (en : Int32) (be : Int32) (de : Int32) (fa : Int32) (a5 : Nat) (sp : Int32) (av : Nat) (an : Nat) (ak : Nat) (ne : Int32) (aW : Nat) (aC : Nat) (ag : Nat) (aT : Nat) (aN : Nat) (aF : Nat) (fw : Nat → Int32) (mm : Int32) (v : Int32) (sz : Nat) (H_mm : Rg mm 0 11) : Met l yX11_sets kwX11_sets ({ frames := 0, cells := 0, slots := 0, locals := 0 } : Room) (kPre D (kT cI cJ cB cC) sz [(h, oX11 th aw ai ab ac hi re aP ta po en be de fa a5 sp av an ak ne aW aC ag aT aN aF), (aw, kcI cI 2179 fw)] [.ref h, .int mm, .int 3, .int v]) (va_Qv (fun (_ : Unit) => True) (fun (_ : Unit) (t : State) => kB D (kT cI cJ cB cC) (va_A [(h, oX11 th aw ai ab ac hi re aP ta po en be de fa a5 sp av an ak ne aW aC ag aT aN aF), (aw, kcI cI 2179 fw)] sz) [(h, oX11 th aw ai ab ac hi re aP ta po en be de fa a5 sp av an ak ne aW aC ag aT aN aF), (aw, kcI cI 2179 (upd fw (64 + 7 * cN mm) v))] t) (va_A [(h, oX11 th aw ai ab ac hi re aP ta po en be de fa a5 sp av an ak ne aW aC ag aT aN aF), (aw, kcI cI 2179 fw)] sz)) 0 0 (va_A [(h, oX11 th aw ai ab ac hi re aP ta po en be de fa a5 sp av an ak ne aW aC ag aT aN aF), (aw, kcI cI 2179 fw)] sz) := by
  refine Met.ofW (cc := cX11_sets) (maxL := 4) (ret := none) (by decide) rfl ?_
  intro p e s m args below meth c s₁ B hml hv
  obtain ⟨rfl, hsz, hN, hE, hP, hK, hD0⟩ := hv
  have hx := B.exec
  have hb := B.bytes
  have hr := B.returns
  have hts := fun (w : Cond) (h : w ∈ kG) => atoms_spec (ws := kwX11_sets) B.pre w (List.mem_cons_of_mem _ h)
  have hown : s.vm.findClass RX11 = some m.cls := findClass_of_methodNamed B.named
  subst hsz
  have hD := hD0.self (sz := s.heap.size)
  generalize hAe : va_A [(h, oX11 th aw ai ab ac hi re aP ta po en be de fa a5 sp av an ak ne aW aC ag aT aN aF), (aw, kcI cI 2179 fw)] s.heap.size = A at hD hE ⊢
  have hA : ∀ q : Nat, s.heap.size ≤ q → A q := fun q h => by rw [← hAe]; exact Or.inr h
  have hl := lv_entry ([.ref h, .int mm, .int 3, .int v]) (n := 4) (Nat.le_of_ble_eq_true rfl)
  rw [lg_entry_eq]
  generalize (lg_sl ([.ref h, .int mm, .int 3, .int v]) ++ List.replicate (4 - (lg_sl ([.ref h, .int mm, .int 3, .int v])).length) Slot.unset).toArray = ls at hl ⊢
  have hl : lv_has ls 4 [(0, .ref h), (1, .int mm), (2, .int 3), (3, .int v)] := hl
  obtain ⟨H, hH0⟩ : ∃ H, H = s.heap := ⟨_, rfl⟩
  have hS : va_S A s.heap H [] := by rw [hH0]; exact va_S.rf
  have hP : va_P D vwCl [(h, oX11 th aw ai ab ac hi re aP ta po en be de fa a5 sp av an ak ne aW aC ag aT aN aF), (aw, kcI cI 2179 fw)] H := by rw [hH0]; exact hP
  refine kHeap hH0 ?_
  clear hH0
  refine lv_aload_n hx hb dX11_sets_0 rfl (lv_at hl 0 rfl) ?_
  refine va_get (D := D) (ci := 10) (v := .ref aw) (C := RX11) (T := TX11) (N := 26) hx hb hts iG_X11 hown hK hP 0 rfl rfl 1 (by decide) (hts _ w5_3) (fun _ h9 => h9) rfl dX11_sets_1 ?_
  refine lv_bipush (v := 61) hx hb dX11_sets_4 (by decide) ?_
  refine lv_bipush (v := 7) hx hb dX11_sets_6 (by decide) ?_
  refine lv_iload_n hx hb dX11_sets_8 rfl (lv_at hl 1 rfl) ?_
  refine lv_imul hx hb dX11_sets_9 ?_
  refine lv_topi (fun x1 ex1 => ?_)
  have tx1 : x1.toInt = 7 * mm.toInt := ti_mul ex1 (rg_lit (n := 7) (by decide)) H_mm (by decide) (by decide) rfl
  have k2 : Rg x1 0 77 := rg_mul ex1 (rg_lit (n := 7) (by decide)) H_mm (by decide)
  refine lv_iadd hx hb dX11_sets_10 ?_
  refine lv_topi (fun x3 ex3 => ?_)
  have tx3 : x3.toInt = 61 + x1.toInt := ti_add ex3 (rg_lit (n := 61) (by decide)) k2 (by decide) (by decide) rfl
  have k4 : Rg x3 61 138 := rg_add ex3 (rg_lit (n := 61) (by decide)) k2 (by decide)
  refine lv_iload_n hx hb dX11_sets_11 rfl (lv_at hl 2 rfl) ?_
  refine lv_iadd hx hb dX11_sets_12 ?_
  refine lv_topi (fun x5 ex5 => ?_)
  have tx5 : x5.toInt = x3.toInt + 3 := ti_add ex5 k4 (rg_lit (n := 3) (by decide)) (by decide) rfl (by decide)
  have k6 : Rg x5 64 141 := rg_add ex5 k4 (rg_lit (n := 3) (by decide)) (by decide)
  refine lv_iload_n hx hb dX11_sets_13 rfl (lv_at hl 3 rfl) ?_
  refine va_iast hx hb hK hP hD hS 1 0 rfl rfl (rg_in k6 (by decide)) dX11_sets_14 (fun H locs hP hD hS => ?_)
  have hP : va_P D vwCl [(h, oX11 th aw ai ab ac hi re aP ta po en be de fa a5 sp av an ak ne aW aC ag aT aN aF), (aw, kcI cI 2179 (upd fw x5.toNatClampNeg v))] H := hP
  have hD : va_D A [(h, oX11 th aw ai ab ac hi re aP ta po en be de fa a5 sp av an ak ne aW aC ag aT aN aF), (aw, kcI cI 2179 (upd fw x5.toNatClampNeg v))] := hD
  have k7 : x5.toNatClampNeg = 64 + 7 * cN mm := cl_of k6 (by decide) (by (try simp only [cN]); have q9 := H_mm; unfold Rg at *; omega)
  rw [k7] at hP hD
  have hP9 := hP.sub (ws' := [(h, oX11 th aw ai ab ac hi re aP ta po en be de fa a5 sp av an ak ne aW aC ag aT aN aF), (aw, kcI cI 2179 (upd fw (64 + 7 * cN mm) v))]) [0, 1] rfl
  have hD9 := hD.sub (ws' := [(h, oX11 th aw ai ab ac hi re aP ta po en be de fa a5 sp av an ak ne aW aC ag aT aN aF), (aw, kcI cI 2179 (upd fw (64 + 7 * cN mm) v))]) [0, 1] (by decide) rfl
  exact W.vret hx hb hr (fun t ht hW => ⟨⟨(), rfl, trivial, by rw [ht]; exact hP9, va_K.moved hW.alike hK, hD9⟩, hS.F ht⟩) hS.2.2 dX11_sets_15

set_option maxHeartbeats 4000000 in
set_option maxRecDepth 100000 in
/-- reference: sets -/
theorem r_sets5x (l : Launch) (D : va_G) (cI cJ cB cC : ClassId) (h : Nat) (th : Int32) (aw : Nat) (ai : Nat) (ab : Nat) (ac : Nat) (hi : Int32) (re : Int32) (aP : Nat) (ta : Int32) (po : Int32) (en : Int32) (be : Int32) (de : Int32) (fa : Int32) (a5 : Nat) (sp : Int32) (av : Nat) (an : Nat) (ak : Nat) (ne : Int32) (aW : Nat) (aC : Nat) (ag : Nat) (aT : Nat) (aN : Nat) (aF : Nat) (fw : Nat → Int32) (mm : Int32) (v : Int32) (sz : Nat) (H_mm : Rg mm 0 11) : Met l yX11_sets kwX11_sets ({ frames := 0, cells := 0, slots := 0, locals := 0 } : Room) (kPre D (kT cI cJ cB cC) sz [(h, oX11 th aw ai ab ac hi re aP ta po en be de fa a5 sp av an ak ne aW aC ag aT aN aF), (aw, kcI cI 2179 fw)] [.ref h, .int mm, .int 5, .int v]) (va_Qv (fun (_ : Unit) => True) (fun (_ : Unit) (t : State) => kB D (kT cI cJ cB cC) (va_A [(h, oX11 th aw ai ab ac hi re aP ta po en be de fa a5 sp av an ak ne aW aC ag aT aN aF), (aw, kcI cI 2179 fw)] sz) [(h, oX11 th aw ai ab ac hi re aP ta po en be de fa a5 sp av an ak ne aW aC ag aT aN aF), (aw, kcI cI 2179 (upd fw (66 + 7 * cN mm) v))] t) (va_A [(h, oX11 th aw ai ab ac hi re aP ta po en be de fa a5 sp av an ak ne aW aC ag aT aN aF), (aw, kcI cI 2179 fw)] sz)) 0 0 (va_A [(h, oX11 th aw ai ab ac hi re aP ta po en be de fa a5 sp av an ak ne aW aC ag aT aN aF), (aw, kcI cI 2179 fw)] sz) := by
  refine Met.ofW (cc := cX11_sets) (maxL := 4) (ret := none) (by decide) rfl ?_
  intro p e s m args below meth c s₁ B hml hv
  obtain ⟨rfl, hsz, hN, hE, hP, hK, hD0⟩ := hv
  have hx := B.exec
  have hb := B.bytes
  have hr := B.returns
  have hts := fun (w : Cond) (h : w ∈ kG) => atoms_spec (ws := kwX11_sets) B.pre w (List.mem_cons_of_mem _ h)
  have hown : s.vm.findClass RX11 = some m.cls := findClass_of_methodNamed B.named
  subst hsz
  have hD := hD0.self (sz := s.heap.size)
  generalize hAe : va_A [(h, oX11 th aw ai ab ac hi re aP ta po en be de fa a5 sp av an ak ne aW aC ag aT aN aF), (aw, kcI cI 2179 fw)] s.heap.size = A at hD hE ⊢
  have hA : ∀ q : Nat, s.heap.size ≤ q → A q := fun q h => by rw [← hAe]; exact Or.inr h
  have hl := lv_entry ([.ref h, .int mm, .int 5, .int v]) (n := 4) (Nat.le_of_ble_eq_true rfl)
  rw [lg_entry_eq]
  generalize (lg_sl ([.ref h, .int mm, .int 5, .int v]) ++ List.replicate (4 - (lg_sl ([.ref h, .int mm, .int 5, .int v])).length) Slot.unset).toArray = ls at hl ⊢
  have hl : lv_has ls 4 [(0, .ref h), (1, .int mm), (2, .int 5), (3, .int v)] := hl
  obtain ⟨H, hH0⟩ : ∃ H, H = s.heap := ⟨_, rfl⟩
  have hS : va_S A s.heap H [] := by rw [hH0]; exact va_S.rf
  have hP : va_P D vwCl [(h, oX11 th aw ai ab ac hi re aP ta po en be de fa a5 sp av an ak ne aW aC ag aT aN aF), (aw, kcI cI 2179 fw)] H := by rw [hH0]; exact hP
  refine kHeap hH0 ?_
  clear hH0
  refine lv_aload_n hx hb dX11_sets_0 rfl (lv_at hl 0 rfl) ?_
  refine va_get (D := D) (ci := 10) (v := .ref aw) (C := RX11) (T := TX11) (N := 26) hx hb hts iG_X11 hown hK hP 0 rfl rfl 1 (by decide) (hts _ w5_3) (fun _ h9 => h9) rfl dX11_sets_1 ?_
  refine lv_bipush (v := 61) hx hb dX11_sets_4 (by decide) ?_
  refine lv_bipush (v := 7) hx hb dX11_sets_6 (by decide) ?_
  refine lv_iload_n hx hb dX11_sets_8 rfl (lv_at hl 1 rfl) ?_
  refine lv_imul hx hb dX11_sets_9 ?_
  refine lv_topi (fun x1 ex1 => ?_)
  have tx1 : x1.toInt = 7 * mm.toInt := ti_mul ex1 (rg_lit (n := 7) (by decide)) H_mm (by decide) (by decide) rfl
  have k2 : Rg x1 0 77 := rg_mul ex1 (rg_lit (n := 7) (by decide)) H_mm (by decide)
  refine lv_iadd hx hb dX11_sets_10 ?_
  refine lv_topi (fun x3 ex3 => ?_)
  have tx3 : x3.toInt = 61 + x1.toInt := ti_add ex3 (rg_lit (n := 61) (by decide)) k2 (by decide) (by decide) rfl
  have k4 : Rg x3 61 138 := rg_add ex3 (rg_lit (n := 61) (by decide)) k2 (by decide)
  refine lv_iload_n hx hb dX11_sets_11 rfl (lv_at hl 2 rfl) ?_
  refine lv_iadd hx hb dX11_sets_12 ?_
  refine lv_topi (fun x5 ex5 => ?_)
  have tx5 : x5.toInt = x3.toInt + 5 := ti_add ex5 k4 (rg_lit (n := 5) (by decide)) (by decide) rfl (by decide)
  have k6 : Rg x5 66 143 := rg_add ex5 k4 (rg_lit (n := 5) (by decide)) (by decide)
  refine lv_iload_n hx hb dX11_sets_13 rfl (lv_at hl 3 rfl) ?_
  refine va_iast hx hb hK hP hD hS 1 0 rfl rfl (rg_in k6 (by decide)) dX11_sets_14 (fun H locs hP hD hS => ?_)
  have hP : va_P D vwCl [(h, oX11 th aw ai ab ac hi re aP ta po en be de fa a5 sp av an ak ne aW aC ag aT aN aF), (aw, kcI cI 2179 (upd fw x5.toNatClampNeg v))] H := hP
  have hD : va_D A [(h, oX11 th aw ai ab ac hi re aP ta po en be de fa a5 sp av an ak ne aW aC ag aT aN aF), (aw, kcI cI 2179 (upd fw x5.toNatClampNeg v))] := hD
  have k7 : x5.toNatClampNeg = 66 + 7 * cN mm := cl_of k6 (by decide) (by (try simp only [cN]); have q9 := H_mm; unfold Rg at *; omega)
  rw [k7] at hP hD
  have hP9 := hP.sub (ws' := [(h, oX11 th aw ai ab ac hi re aP ta po en be de fa a5 sp av an ak ne aW aC ag aT aN aF), (aw, kcI cI 2179 (upd fw (66 + 7 * cN mm) v))]) [0, 1] rfl
  have hD9 := hD.sub (ws' := [(h, oX11 th aw ai ab ac hi re aP ta po en be de fa a5 sp av an ak ne aW aC ag aT aN aF), (aw, kcI cI 2179 (upd fw (66 + 7 * cN mm) v))]) [0, 1] (by decide) rfl
  exact W.vret hx hb hr (fun t ht hW => ⟨⟨(), rfl, trivial, by rw [ht]; exact hP9, va_K.moved hW.alike hK, hD9⟩, hS.F ht⟩) hS.2.2 dX11_sets_15

set_option maxHeartbeats 4000000 in
set_option maxRecDepth 100000 in
/-- reference: sets -/
theorem r_sets6x (l : Launch) (D : va_G) (cI cJ cB cC : ClassId) (h : Nat) (th : Int32) (aw : Nat) (ai : Nat) (ab : Nat) (ac : Nat) (hi : Int32) (re : Int32) (aP : Nat) (ta : Int32) (po : Int32) (en : Int32) (be : Int32) (de : Int32) (fa : Int32) (a5 : Nat) (sp : Int32) (av : Nat) (an : Nat) (ak : Nat) (ne : Int32) (aW : Nat) (aC : Nat) (ag : Nat) (aT : Nat) (aN : Nat) (aF : Nat) (fw : Nat → Int32) (mm : Int32) (v : Int32) (sz : Nat) (H_mm : Rg mm 0 11) : Met l yX11_sets kwX11_sets ({ frames := 0, cells := 0, slots := 0, locals := 0 } : Room) (kPre D (kT cI cJ cB cC) sz [(h, oX11 th aw ai ab ac hi re aP ta po en be de fa a5 sp av an ak ne aW aC ag aT aN aF), (aw, kcI cI 2179 fw)] [.ref h, .int mm, .int 6, .int v]) (va_Qv (fun (_ : Unit) => True) (fun (_ : Unit) (t : State) => kB D (kT cI cJ cB cC) (va_A [(h, oX11 th aw ai ab ac hi re aP ta po en be de fa a5 sp av an ak ne aW aC ag aT aN aF), (aw, kcI cI 2179 fw)] sz) [(h, oX11 th aw ai ab ac hi re aP ta po en be de fa a5 sp av an ak ne aW aC ag aT aN aF), (aw, kcI cI 2179 (upd fw (67 + 7 * cN mm) v))] t) (va_A [(h, oX11 th aw ai ab ac hi re aP ta po en be de fa a5 sp av an ak ne aW aC ag aT aN aF), (aw, kcI cI 2179 fw)] sz)) 0 0 (va_A [(h, oX11 th aw ai ab ac hi re aP ta po en be de fa a5 sp av an ak ne aW aC ag aT aN aF), (aw, kcI cI 2179 fw)] sz) := by
  refine Met.ofW (cc := cX11_sets) (maxL := 4) (ret := none) (by decide) rfl ?_
  intro p e s m args below meth c s₁ B hml hv
  obtain ⟨rfl, hsz, hN, hE, hP, hK, hD0⟩ := hv
  have hx := B.exec
  have hb := B.bytes
  have hr := B.returns
  have hts := fun (w : Cond) (h : w ∈ kG) => atoms_spec (ws := kwX11_sets) B.pre w (List.mem_cons_of_mem _ h)
  have hown : s.vm.findClass RX11 = some m.cls := findClass_of_methodNamed B.named
  subst hsz
  have hD := hD0.self (sz := s.heap.size)
  generalize hAe : va_A [(h, oX11 th aw ai ab ac hi re aP ta po en be de fa a5 sp av an ak ne aW aC ag aT aN aF), (aw, kcI cI 2179 fw)] s.heap.size = A at hD hE ⊢
  have hA : ∀ q : Nat, s.heap.size ≤ q → A q := fun q h => by rw [← hAe]; exact Or.inr h
  have hl := lv_entry ([.ref h, .int mm, .int 6, .int v]) (n := 4) (Nat.le_of_ble_eq_true rfl)
  rw [lg_entry_eq]
  generalize (lg_sl ([.ref h, .int mm, .int 6, .int v]) ++ List.replicate (4 - (lg_sl ([.ref h, .int mm, .int 6, .int v])).length) Slot.unset).toArray = ls at hl ⊢
  have hl : lv_has ls 4 [(0, .ref h), (1, .int mm), (2, .int 6), (3, .int v)] := hl
  obtain ⟨H, hH0⟩ : ∃ H, H = s.heap := ⟨_, rfl⟩
  have hS : va_S A s.heap H [] := by rw [hH0]; exact va_S.rf
  have hP : va_P D vwCl [(h, oX11 th aw ai ab ac hi re aP ta po en be de fa a5 sp av an ak ne aW aC ag aT aN aF), (aw, kcI cI 2179 fw)] H := by rw [hH0]; exact hP
  refine kHeap hH0 ?_
  clear hH0
  refine lv_aload_n hx hb dX11_sets_0 rfl (lv_at hl 0 rfl) ?_
  refine va_get (D := D) (ci := 10) (v := .ref aw) (C := RX11) (T := TX11) (N := 26) hx hb hts iG_X11 hown hK hP 0 rfl rfl 1 (by decide) (hts _ w5_3) (fun _ h9 => h9) rfl dX11_sets_1 ?_
  refine lv_bipush (v := 61) hx hb dX11_sets_4 (by decide) ?_
  refine lv_bipush (v := 7) hx hb dX11_sets_6 (by decide) ?_
  refine lv_iload_n hx hb dX11_sets_8 rfl (lv_at hl 1 rfl) ?_
  refine lv_imul hx hb dX11_sets_9 ?_
  refine lv_topi (fun x1 ex1 => ?_)
  have tx1 : x1.toInt = 7 * mm.toInt := ti_mul ex1 (rg_lit (n := 7) (by decide)) H_mm (by decide) (by decide) rfl
  have k2 : Rg x1 0 77 := rg_mul ex1 (rg_lit (n := 7) (by decide)) H_mm (by decide)
  refine lv_iadd hx hb dX11_sets_10 ?_
  refine lv_topi (fun x3 ex3 => ?_)
  have tx3 : x3.toInt = 61 + x1.toInt := ti_add ex3 (rg_lit (n := 61) (by decide)) k2 (by decide) (by decide) rfl
  have k4 : Rg x3 61 138 := rg_add ex3 (rg_lit (n := 61) (by decide)) k2 (by decide)
  refine lv_iload_n hx hb dX11_sets_11 rfl (lv_at hl 2 rfl) ?_
  refine lv_iadd hx hb dX11_sets_12 ?_
  refine lv_topi (fun x5 ex5 => ?_)
  have tx5 : x5.toInt = x3.toInt + 6 := ti_add ex5 k4 (rg_lit (n := 6) (by decide)) (by decide) rfl (by decide)
  have k6 : Rg x5 67 144 := rg_add ex5 k4 (rg_lit (n := 6) (by decide)) (by decide)
  refine lv_iload_n hx hb dX11_sets_13 rfl (lv_at hl 3 rfl) ?_
  refine va_iast hx hb hK hP hD hS 1 0 rfl rfl (rg_in k6 (by decide)) dX11_sets_14 (fun H locs hP hD hS => ?_)
  have hP : va_P D vwCl [(h, oX11 th aw ai ab ac hi re aP ta po en be de fa a5 sp av an ak ne aW aC ag aT aN aF), (aw, kcI cI 2179 (upd fw x5.toNatClampNeg v))] H := hP
  have hD : va_D A [(h, oX11 th aw ai ab ac hi re aP ta po en be de fa a5 sp av an ak ne aW aC ag aT aN aF), (aw, kcI cI 2179 (upd fw x5.toNatClampNeg v))] := hD
  have k7 : x5.toNatClampNeg = 67 + 7 * cN mm := cl_of k6 (by decide) (by (try simp only [cN]); have q9 := H_mm; unfold Rg at *; omega)
  rw [k7] at hP hD
  have hP9 := hP.sub (ws' := [(h, oX11 th aw ai ab ac hi re aP ta po en be de fa a5 sp av an ak ne aW aC ag aT aN aF), (aw, kcI cI 2179 (upd fw (67 + 7 * cN mm) v))]) [0, 1] rfl
  have hD9 := hD.sub (ws' := [(h, oX11 th aw ai ab ac hi re aP ta po en be de fa a5 sp av an ak ne aW aC ag aT aN aF), (aw, kcI cI 2179 (upd fw (67 + 7 * cN mm) v))]) [0, 1] (by decide) rfl
  exact W.vret hx hb hr (fun t ht hW => ⟨⟨(), rfl, trivial, by rw [ht]; exact hP9, va_K.moved hW.alike hK, hD9⟩, hS.F ht⟩) hS.2.2 dX11_sets_15

set_option maxHeartbeats 4000000 in
set_option maxRecDepth 100000 in
/-- reference: setsMan -/
theorem r_setsMan0k (l : Launch) (D : va_G) (cI cJ cB cC : ClassId) (h : Nat) (th : Int32) (aw : Nat) (ai : Nat) (ab : Nat) (ac : Nat) (hi : Int32) (re : Int32) (aP : Nat) (ta : Int32) (po : Int32) (en : Int32) (be : Int32) (de : Int32) (fa : Int32) (a5 : Nat) (sp : Int32) (av : Nat) (an : Nat) (ak : Nat) (ne : Int32) (aW : Nat) (aC : Nat) (ag : Nat) (aT : Nat) (aN : Nat) (aF : Nat) (fw : Nat → Int32) (mm : Int32) (v : Int32) (sz : Nat) (H_mm : Rg mm 0 9) (H_fw_W : wW fw) (H_fw_B : wB fw) (H_fw_L : wL fw) : Met l yX11_setsMan kwX11_setsMan ({ frames := 0, cells := 0, slots := 0, locals := 0 } : Room) (kPre D (kT cI cJ cB cC) sz [(h, oX11 th aw ai ab ac hi re aP ta po en be de fa a5 sp av an ak ne aW aC ag aT aN aF), (aw, kcI cI 2179 fw)] [.ref h, .int mm, .int 0, .int v]) (va_Qv (fun (f0_ : (Nat → Int32)) => wB f0_ ∧ wL f0_ ∧ wW f0_ ∧ (f0_ 0 = fw 0) ∧ F_r_setsMan0k (gT fw) (mm : Int32).toInt (v : Int32).toInt = ((gT f0_))) (fun (f0_ : (Nat → Int32)) (t : State) => kB D (kT cI cJ cB cC) (va_A [(h, oX11 th aw ai ab ac hi re aP ta po en be de fa a5 sp av an ak ne aW aC ag aT aN aF), (aw, kcI cI 2179 fw)] sz) [(h, oX11 th aw ai ab ac hi re aP ta po en be de fa a5 sp av an ak ne aW aC ag aT aN aF), (aw, kcI cI 2179 f0_)] t) (va_A [(h, oX11 th aw ai ab ac hi re aP ta po en be de fa a5 sp av an ak ne aW aC ag aT aN aF), (aw, kcI cI 2179 fw)] sz)) 0 0 (va_A [(h, oX11 th aw ai ab ac hi re aP ta po en be de fa a5 sp av an ak ne aW aC ag aT aN aF), (aw, kcI cI 2179 fw)] sz) := by
  refine Met.ofW (cc := cX11_setsMan) (maxL := 4) (ret := none) (by decide) rfl ?_
  intro p e s m args below meth c s₁ B hml hv
  obtain ⟨rfl, hsz, hN, hE, hP, hK, hD0⟩ := hv
  have hx := B.exec
  have hb := B.bytes
  have hr := B.returns
  have hts := fun (w : Cond) (h : w ∈ kG) => atoms_spec (ws := kwX11_setsMan) B.pre w (List.mem_cons_of_mem _ h)
  have hown : s.vm.findClass RX11 = some m.cls := findClass_of_methodNamed B.named
  subst hsz
  have hD := hD0.self (sz := s.heap.size)
  generalize hAe : va_A [(h, oX11 th aw ai ab ac hi re aP ta po en be de fa a5 sp av an ak ne aW aC ag aT aN aF), (aw, kcI cI 2179 fw)] s.heap.size = A at hD hE ⊢
  have hA : ∀ q : Nat, s.heap.size ≤ q → A q := fun q h => by rw [← hAe]; exact Or.inr h
  have hl := lv_entry ([.ref h, .int mm, .int 0, .int v]) (n := 4) (Nat.le_of_ble_eq_true rfl)
  rw [lg_entry_eq]
  generalize (lg_sl ([.ref h, .int mm, .int 0, .int v]) ++ List.replicate (4 - (lg_sl ([.ref h, .int mm, .int 0, .int v])).length) Slot.unset).toArray = ls at hl ⊢
  have hl : lv_has ls 4 [(0, .ref h), (1, .int mm), (2, .int 0), (3, .int v)] := hl
  obtain ⟨H, hH0⟩ : ∃ H, H = s.heap := ⟨_, rfl⟩
  have hS : va_S A s.heap H [] := by rw [hH0]; exact va_S.rf
  have hP : va_P D vwCl [(h, oX11 th aw ai ab ac hi re aP ta po en be de fa a5 sp av an ak ne aW aC ag aT aN aF), (aw, kcI cI 2179 fw)] H := by rw [hH0]; exact hP
  refine kHeap hH0 ?_
  clear hH0
  refine lv_aload_n hx hb dX11_setsMan_0 rfl (lv_at hl 0 rfl) ?_
  refine va_get (D := D) (ci := 10) (v := .ref aw) (C := RX11) (T := TX11) (N := 26) hx hb hts iG_X11 hown hK hP 0 rfl rfl 1 (by decide) (hts _ w5_3) (fun _ h9 => h9) rfl dX11_setsMan_1 ?_
  refine lv_bipush (v := 11) hx hb dX11_setsMan_4 (by decide) ?_
  refine lv_iconst (v := 5) hx hb dX11_setsMan_6 (by decide) ?_
  refine lv_iload_n hx hb dX11_setsMan_7 rfl (lv_at hl 1 rfl) ?_
  refine lv_imul hx hb dX11_setsMan_8 ?_
  refine lv_topi (fun x1 ex1 => ?_)
  have tx1 : x1.toInt = 5 * mm.toInt := ti_mul ex1 (rg_lit (n := 5) (by decide)) H_mm (by decide) (by decide) rfl
  have k2 : Rg x1 0 45 := rg_mul ex1 (rg_lit (n := 5) (by decide)) H_mm (by decide)
  refine lv_iadd hx hb dX11_setsMan_9 ?_
  refine lv_topi (fun x3 ex3 => ?_)
  have tx3 : x3.toInt = 11 + x1.toInt := ti_add ex3 (rg_lit (n := 11) (by decide)) k2 (by decide) (by decide) rfl
  have k4 : Rg x3 11 56 := rg_add ex3 (rg_lit (n := 11) (by decide)) k2 (by decide)
  refine lv_iload_n hx hb dX11_setsMan_10 rfl (lv_at hl 2 rfl) ?_
  refine lv_iadd hx hb dX11_setsMan_11 ?_
  refine lv_topi (fun x5 ex5 => ?_)
  have tx5 : x5.toInt = x3.toInt + 0 := ti_add ex5 k4 (rg_lit (n := 0) (by decide)) (by decide) rfl (by decide)
  have k6 : Rg x5 11 56 := rg_add ex5 k4 (rg_lit (n := 0) (by decide)) (by decide)
  refine lv_iload_n hx hb dX11_setsMan_12 rfl (lv_at hl 3 rfl) ?_
  refine va_iast hx hb hK hP hD hS 1 0 rfl rfl (rg_in k6 (by decide)) dX11_setsMan_13 (fun H locs hP hD hS => ?_)
  have hP : va_P D vwCl [(h, oX11 th aw ai ab ac hi re aP ta po en be de fa a5 sp av an ak ne aW aC ag aT aN aF), (aw, kcI cI 2179 (upd fw x5.toNatClampNeg v))] H := hP
  have hD : va_D A [(h, oX11 th aw ai ab ac hi re aP ta po en be de fa a5 sp av an ak ne aW aC ag aT aN aF), (aw, kcI cI 2179 (upd fw x5.toNatClampNeg v))] := hD
  have k8 : wW (upd fw x5.toNatClampNeg v) := wW_man 0 H_fw_W H_mm (by omega) (by omega) (by omega) (by omega)
  have k9 : wB (upd fw x5.toNatClampNeg v) := wB_lo H_fw_B H_fw_W k6 (by decide)
  have k10 : wL (upd fw x5.toNatClampNeg v) := wL_out H_fw_L k6 (by decide)
  generalize hg7 : (upd fw x5.toNatClampNeg v) = g7 at hP hD k8 k9 k10
  have hP9 := hP.sub (ws' := [(h, oX11 th aw ai ab ac hi re aP ta po en be de fa a5 sp av an ak ne aW aC ag aT aN aF), (aw, kcI cI 2179 g7)]) [0, 1] rfl
  have hD9 := hD.sub (ws' := [(h, oX11 th aw ai ab ac hi re aP ta po en be de fa a5 sp av an ak ne aW aC ag aT aN aF), (aw, kcI cI 2179 g7)]) [0, 1] (by decide) rfl
  exact W.vret hx hb hr (fun t ht hW => ⟨⟨(g7), rfl, ⟨k9, k10, k8, (by rw [← hg7]; exact upd_0 k6 (by decide)), (kLet_eq (ti_mul ex1 (rg_lit (n := 5) (by decide)) H_mm (by decide) rfl rfl) (kLet_eq (ti_add ex3 (rg_lit (n := 11) (by decide)) k2 (by decide) rfl rfl) (kLet_eq (ti_add ex5 k4 (rg_lit (n := 0) (by decide)) (by decide) rfl rfl) (kLet_eq (ke_st hg7) rfl))))⟩, by rw [ht]; exact hP9, va_K.moved hW.alike hK, hD9⟩, hS.F ht⟩) hS.2.2 dX11_setsMan_14

set_option maxHeartbeats 4000000 in
set_option maxRecDepth 100000 in
/-- reference: setsMan -/
theorem r_setsMan1k (l : Launch) (D : va_G) (cI cJ cB cC : ClassId) (h : Nat) (th : Int32) (aw : Nat) (ai : Nat) (ab : Nat) (ac : Nat) (hi : Int32) (re : Int32) (aP : Nat) (ta : Int32) (po : Int32) (en : Int32) (be : Int32) (de : Int32) (fa : Int32) (a5 : Nat) (sp : Int32) (av : Nat) (an : Nat) (ak : Nat) (ne : Int32) (aW : Nat) (aC : Nat) (ag : Nat) (aT : Nat) (aN : Nat) (aF : Nat) (fw : Nat → Int32) (mm : Int32) (v : Int32) (sz : Nat) (H_mm : Rg mm 0 9) (H_fw_W : wW fw) (H_fw_B : wB fw) (H_fw_L : wL fw) : Met l yX11_setsMan kwX11_setsMan ({ frames := 0, cells := 0, slots := 0, locals := 0 } : Room) (kPre D (kT cI cJ cB cC) sz [(h, oX11 th aw ai ab ac hi re aP ta po en be de fa a5 sp av an ak ne aW aC ag aT aN aF), (aw, kcI cI 2179 fw)] [.ref h, .int mm, .int 1, .int v]) (va_Qv (fun (f0_ : (Nat → Int32)) => wB f0_ ∧ wL f0_ ∧ wW f0_ ∧ (f0_ 0 = fw 0) ∧ F_r_setsMan1k (gT fw) (mm : Int32).toInt (v : Int32).toInt = ((gT f0_))) (fun (f0_ : (Nat → Int32)) (t : State) => kB D (kT cI cJ cB cC) (va_A [(h, oX11 th aw ai ab ac hi re aP ta po en be de fa a5 sp av an ak ne aW aC ag aT aN aF), (aw, kcI cI 2179 fw)] sz) [(h, oX11 th aw ai ab ac hi re aP ta po en be de fa a5 sp av an ak ne aW aC ag aT aN aF), (aw, kcI cI 2179 f0_)] t) (va_A [(h, oX11 th aw ai ab ac hi re aP ta po en be de fa a5 sp av an ak ne aW aC ag aT aN aF), (aw, kcI cI 2179 fw)] sz)) 0 0 (va_A [(h, oX11 th aw ai ab ac hi re aP ta po en be de fa a5 sp av an ak ne aW aC ag aT aN aF), (aw, kcI cI 2179 fw)] sz) := by
  refine Met.ofW (cc := cX11_setsMan) (maxL := 4) (ret := none) (by decide) rfl ?_
  intro p e s m args below meth c s₁ B hml hv
  obtain ⟨rfl, hsz, hN, hE, hP, hK, hD0⟩ := hv
  have hx := B.exec
  have hb := B.bytes
  have hr := B.returns
  have hts := fun (w : Cond) (h : w ∈ kG) => atoms_spec (ws := kwX11_setsMan) B.pre w (List.mem_cons_of_mem _ h)
  have hown : s.vm.findClass RX11 = some m.cls := findClass_of_methodNamed B.named
  subst hsz
  have hD := hD0.self (sz := s.heap.size)
  generalize hAe : va_A [(h, oX11 th aw ai ab ac hi re aP ta po en be de fa a5 sp av an ak ne aW aC ag aT aN aF), (aw, kcI cI 2179 fw)] s.heap.size = A at hD hE ⊢
  have hA : ∀ q : Nat, s.heap.size ≤ q → A q := fun q h => by rw [← hAe]; exact Or.inr h
  have hl := lv_entry ([.ref h, .int mm, .int 1, .int v]) (n := 4) (Nat.le_of_ble_eq_true rfl)
  rw [lg_entry_eq]
  generalize (lg_sl ([.ref h, .int mm, .int 1, .int v]) ++ List.replicate (4 - (lg_sl ([.ref h, .int mm, .int 1, .int v])).length) Slot.unset).toArray = ls at hl ⊢
  have hl : lv_has ls 4 [(0, .ref h), (1, .int mm), (2, .int 1), (3, .int v)] := hl
  obtain ⟨H, hH0⟩ : ∃ H, H = s.heap := ⟨_, rfl⟩
  have hS : va_S A s.heap H [] := by rw [hH0]; exact va_S.rf
  have hP : va_P D vwCl [(h, oX11 th aw ai ab ac hi re aP ta po en be de fa a5 sp av an ak ne aW aC ag aT aN aF), (aw, kcI cI 2179 fw)] H := by rw [hH0]; exact hP
  refine kHeap hH0 ?_
  clear hH0
  refine lv_aload_n hx hb dX11_setsMan_0 rfl (lv_at hl 0 rfl) ?_
  refine va_get (D := D) (ci := 10) (v := .ref aw) (C := RX11) (T := TX11) (N := 26) hx hb hts iG_X11 hown hK hP 0 rfl rfl 1 (by decide) (hts _ w5_3) (fun _ h9 => h9) rfl dX11_setsMan_1 ?_
  refine lv_bipush (v := 11) hx hb dX11_setsMan_4 (by decide) ?_
  refine lv_iconst (v := 5) hx hb dX11_setsMan_6 (by decide) ?_
  refine lv_iload_n hx hb dX11_setsMan_7 rfl (lv_at hl 1 rfl) ?_
  refine lv_imul hx hb dX11_setsMan_8 ?_
  refine lv_topi (fun x1 ex1 => ?_)
  have tx1 : x1.toInt = 5 * mm.toInt := ti_mul ex1 (rg_lit (n := 5) (by decide)) H_mm (by decide) (by decide) rfl
  have k2 : Rg x1 0 45 := rg_mul ex1 (rg_lit (n := 5) (by decide)) H_mm (by decide)
  refine lv_iadd hx hb dX11_setsMan_9 ?_
  refine lv_topi (fun x3 ex3 => ?_)
  have tx3 : x3.toInt = 11 + x1.toInt := ti_add ex3 (rg_lit (n := 11) (by decide)) k2 (by decide) (by decide) rfl
  have k4 : Rg x3 11 56 := rg_add ex3 (rg_lit (n := 11) (by decide)) k2 (by decide)
  refine lv_iload_n hx hb dX11_setsMan_10 rfl (lv_at hl 2 rfl) ?_
  refine lv_iadd hx hb dX11_setsMan_11 ?_
  refine lv_topi (fun x5 ex5 => ?_)
  have tx5 : x5.toInt = x3.toInt + 1 := ti_add ex5 k4 (rg_lit (n := 1) (by decide)) (by decide) rfl (by decide)
  have k6 : Rg x5 12 57 := rg_add ex5 k4 (rg_lit (n := 1) (by decide)) (by decide)
  refine lv_iload_n hx hb dX11_setsMan_12 rfl (lv_at hl 3 rfl) ?_
  refine va_iast hx hb hK hP hD hS 1 0 rfl rfl (rg_in k6 (by decide)) dX11_setsMan_13 (fun H locs hP hD hS => ?_)
  have hP : va_P D vwCl [(h, oX11 th aw ai ab ac hi re aP ta po en be de fa a5 sp av an ak ne aW aC ag aT aN aF), (aw, kcI cI 2179 (upd fw x5.toNatClampNeg v))] H := hP
  have hD : va_D A [(h, oX11 th aw ai ab ac hi re aP ta po en be de fa a5 sp av an ak ne aW aC ag aT aN aF), (aw, kcI cI 2179 (upd fw x5.toNatClampNeg v))] := hD
  have k8 : wW (upd fw x5.toNatClampNeg v) := wW_man 1 H_fw_W H_mm (by omega) (by omega) (by omega) (by omega)
  have k9 : wB (upd fw x5.toNatClampNeg v) := wB_lo H_fw_B H_fw_W k6 (by decide)
  have k10 : wL (upd fw x5.toNatClampNeg v) := wL_out H_fw_L k6 (by decide)
  generalize hg7 : (upd fw x5.toNatClampNeg v) = g7 at hP hD k8 k9 k10
  have hP9 := hP.sub (ws' := [(h, oX11 th aw ai ab ac hi re aP ta po en be de fa a5 sp av an ak ne aW aC ag aT aN aF), (aw, kcI cI 2179 g7)]) [0, 1] rfl
  have hD9 := hD.sub (ws' := [(h, oX11 th aw ai ab ac hi re aP ta po en be de fa a5 sp av an ak ne aW aC ag aT aN aF), (aw, kcI cI 2179 g7)]) [0, 1] (by decide) rfl
  exact W.vret hx hb hr (fun t ht hW => ⟨⟨(g7), rfl, ⟨k9, k10, k8, (by rw [← hg7]; exact upd_0 k6 (by decide)), (kLet_eq (ti_mul ex1 (rg_lit (n := 5) (by decide)) H_mm (by decide) rfl rfl) (kLet_eq (ti_add ex3 (rg_lit (n := 11) (by decide)) k2 (by decide) rfl rfl) (kLet_eq (ti_add ex5 k4 (rg_lit (n := 1) (by decide)) (by decide) rfl rfl) (kLet_eq (ke_st hg7) rfl))))⟩, by rw [ht]; exact hP9, va_K.moved hW.alike hK, hD9⟩, hS.F ht⟩) hS.2.2 dX11_setsMan_14

set_option maxHeartbeats 4000000 in
set_option maxRecDepth 100000 in
/-- reference: setsMan -/
theorem r_setsMan2k (l : Launch) (D : va_G) (cI cJ cB cC : ClassId) (h : Nat) (th : Int32) (aw : Nat) (ai : Nat) (ab : Nat) (ac : Nat) (hi : Int32) (re : Int32) (aP : Nat) (ta : Int32) (po : Int32) (en : Int32) (be : Int32) (de : Int32) (fa : Int32) (a5 : Nat) (sp : Int32) (av : Nat) (an : Nat) (ak : Nat) (ne : Int32) (aW : Nat) (aC : Nat) (ag : Nat) (aT : Nat) (aN : Nat) (aF : Nat) (fw : Nat → Int32) (mm : Int32) (v : Int32) (sz : Nat) (H_mm : Rg mm 0 9) (H_v : Rg v 0 9) (H_fw_W : wW fw) (H_fw_B : wB fw) (H_fw_L : wL fw) : Met l yX11_setsMan kwX11_setsMan ({ frames := 0, cells := 0, slots := 0, locals := 0 } : Room) (kPre D (kT cI cJ cB cC) sz [(h, oX11 th aw ai ab ac hi re aP ta po en be de fa a5 sp av an ak ne aW aC ag aT aN aF), (aw, kcI cI 2179 fw)] [.ref h, .int mm, .int 2, .int v]) (va_Qv (fun (f0_ : (Nat → Int32)) => wB f0_ ∧ wL f0_ ∧ wW f0_ ∧ (f0_ 0 = fw 0) ∧ F_r_setsMan2k (gT fw) (mm : Int32).toInt (v : Int32).toInt = ((gT f0_))) (fun (f0_ : (Nat → Int32)) (t : State) => kB D (kT cI cJ cB cC) (va_A [(h, oX11 th aw ai ab ac hi re aP ta po en be de fa a5 sp av an ak ne aW aC ag aT aN aF), (aw, kcI cI 2179 fw)] sz) [(h, oX11 th aw ai ab ac hi re aP ta po en be de fa a5 sp av an ak ne aW aC ag aT aN aF), (aw, kcI cI 2179 f0_)] t) (va_A [(h, oX11 th aw ai ab ac hi re aP ta po en be de fa a5 sp av an ak ne aW aC ag aT aN aF), (aw, kcI cI 2179 fw)] sz)) 0 0 (va_A [(h, oX11 th aw ai ab ac hi re aP ta po en be de fa a5 sp av an ak ne aW aC ag aT aN aF), (aw, kcI cI 2179 fw)] sz) := by
  refine Met.ofW (cc := cX11_setsMan) (maxL := 4) (ret := none) (by decide) rfl ?_
  intro p e s m args below meth c s₁ B hml hv
  obtain ⟨rfl, hsz, hN, hE, hP, hK, hD0⟩ := hv
  have hx := B.exec
  have hb := B.bytes
  have hr := B.returns
  have hts := fun (w : Cond) (h : w ∈ kG) => atoms_spec (ws := kwX11_setsMan) B.pre w (List.mem_cons_of_mem _ h)
  have hown : s.vm.findClass RX11 = some m.cls := findClass_of_methodNamed B.named
  subst hsz
  have hD := hD0.self (sz := s.heap.size)
  generalize hAe : va_A [(h, oX11 th aw ai ab ac hi re aP ta po en be de fa a5 sp av an ak ne aW aC ag aT aN aF), (aw, kcI cI 2179 fw)] s.heap.size = A at hD hE ⊢
  have hA : ∀ q : Nat, s.heap.size ≤ q → A q := fun q h => by rw [← hAe]; exact Or.inr h
  have hl := lv_entry ([.ref h, .int mm, .int 2, .int v]) (n := 4) (Nat.le_of_ble_eq_true rfl)
  rw [lg_entry_eq]
  generalize (lg_sl ([.ref h, .int mm, .int 2, .int v]) ++ List.replicate (4 - (lg_sl ([.ref h, .int mm, .int 2, .int v])).length) Slot.unset).toArray = ls at hl ⊢
  have hl : lv_has ls 4 [(0, .ref h), (1, .int mm), (2, .int 2), (3, .int v)] := hl
  obtain ⟨H, hH0⟩ : ∃ H, H = s.heap := ⟨_, rfl⟩
  have hS : va_S A s.heap H [] := by rw [hH0]; exact va_S.rf
  have hP : va_P D vwCl [(h, oX11 th aw ai ab ac hi re aP ta po en be de fa a5 sp av an ak ne aW aC ag aT aN aF), (aw, kcI cI 2179 fw)] H := by rw [hH0]; exact hP
  refine kHeap hH0 ?_
  clear hH0
  refine lv_aload_n hx hb dX11_setsMan_0 rfl (lv_at hl 0 rfl) ?_
  refine va_get (D := D) (ci := 10) (v := .ref aw) (C := RX11) (T := TX11) (N := 26) hx hb hts iG_X11 hown hK hP 0 rfl rfl 1 (by decide) (hts _ w5_3) (fun _ h9 => h9) rfl dX11_setsMan_1 ?_
  refine lv_bipush (v := 11) hx hb dX11_setsMan_4 (by decide) ?_
  refine lv_iconst (v := 5) hx hb dX11_setsMan_6 (by decide) ?_
  refine lv_iload_n hx hb dX11_setsMan_7 rfl (lv_at hl 1 rfl) ?_
  refine lv_imul hx hb dX11_setsMan_8 ?_
  refine lv_topi (fun x1 ex1 => ?_)
  have tx1 : x1.toInt = 5 * mm.toInt := ti_mul ex1 (rg_lit (n := 5) (by decide)) H_mm (by decide) (by decide) rfl
  have k2 : Rg x1 0 45 := rg_mul ex1 (rg_lit (n := 5) (by decide)) H_mm (by decide)
  refine lv_iadd hx hb dX11_setsMan_9 ?_
  refine lv_topi (fun x3 ex3 => ?_)
  have tx3 : x3.toInt = 11 + x1.toInt := ti_add ex3 (rg_lit (n := 11) (by decide)) k2 (by decide) (by decide) rfl
  have k4 : Rg x3 11 56 := rg_add ex3 (rg_lit (n := 11) (by decide)) k2 (by decide)
  refine lv_iload_n hx hb dX11_setsMan_10 rfl (lv_at hl 2 rfl) ?_
  refine lv_iadd hx hb dX11_setsMan_11 ?_
  refine lv_topi (fun x5 ex5 => ?_)
  have tx5 : x5.toInt = x3.toInt + 2 := ti_add ex5 k4 (rg_lit (n := 2) (by decide)) (by decide) rfl (by decide)
  have k6 : Rg x5 13 58 := rg_add ex5 k4 (rg_lit (n := 2) (by decide)) (by decide)
  refine lv_iload_n hx hb dX11_setsMan_12 rfl (lv_at hl 3 rfl) ?_
  refine va_iast hx hb hK hP hD hS 1 0 rfl rfl (rg_in k6 (by decide)) dX11_setsMan_13 (fun H locs hP hD hS => ?_)
  have hP : va_P D vwCl [(h, oX11 th aw ai ab ac hi re aP ta po en be de fa a5 sp av an ak ne aW aC ag aT aN aF), (aw, kcI cI 2179 (upd fw x5.toNatClampNeg v))] H := hP
  have hD : va_D A [(h, oX11 th aw ai ab ac hi re aP ta po en be de fa a5 sp av an ak ne aW aC ag aT aN aF), (aw, kcI cI 2179 (upd fw x5.toNatClampNeg v))] := hD
  have k8 : wW (upd fw x5.toNatClampNeg v) := wW_man 2 H_fw_W H_mm (by omega) (by omega) (fun _ => H_v) (by omega)
  have k9 : wB (upd fw x5.toNatClampNeg v) := wB_lo H_fw_B H_fw_W k6 (by decide)
  have k10 : wL (upd fw x5.toNatClampNeg v) := wL_out H_fw_L k6 (by decide)
  generalize hg7 : (upd fw x5.toNatClampNeg v) = g7 at hP hD k8 k9 k10
  have hP9 := hP.sub (ws' := [(h, oX11 th aw ai ab ac hi re aP ta po en be de fa a5 sp av an ak ne aW aC ag aT aN aF), (aw, kcI cI 2179 g7)]) [0, 1] rfl
  have hD9 := hD.sub (ws' := [(h, oX11 th aw ai ab ac hi re aP ta po en be de fa a5 sp av an ak ne aW aC ag aT aN aF), (aw, kcI cI 2179 g7)]) [0, 1] (by decide) rfl
  exact W.vret hx hb hr (fun t ht hW => ⟨⟨(g7), rfl, ⟨k9, k10, k8, (by rw [← hg7]; exact upd_0 k6 (by decide)), (kLet_eq (ti_mul ex1 (rg_lit (n := 5) (by decide)) H_mm (by decide) rfl rfl) (kLet_eq (ti_add ex3 (rg_lit (n := 11) (by decide)) k2 (by decide) rfl rfl) (kLet_eq (ti_add ex5 k4 (rg_lit (n := 2) (by decide)) (by decide) rfl rfl) (kLet_eq (ke_st hg7) rfl))))⟩, by rw [ht]; exact hP9, va_K.moved hW.alike hK, hD9⟩, hS.F ht⟩) hS.2.2 dX11_setsMan_14

set_option maxHeartbeats 4000000 in
set_option maxRecDepth 100000 in
/-- reference: setsMan -/
theorem r_setsMan3k (l : Launch) (D : va_G) (cI cJ cB cC : ClassId) (h : Nat) (th : Int32) (aw : Nat) (ai : Nat) (ab : Nat) (ac : Nat) (hi : Int32) (re : Int32) (aP : Nat) (ta : Int32) (po : Int32) (en : Int32) (be : Int32) (de : Int32) (fa : Int32) (a5 : Nat) (sp : Int32) (av : Nat) (an : Nat) (ak : Nat) (ne : Int32) (aW : Nat) (aC : Nat) (ag : Nat) (aT : Nat) (aN : Nat) (aF : Nat) (fw : Nat → Int32) (mm : Int32) (v : Int32) (sz : Nat) (H_mm : Rg mm 0 9) (H_fw_W : wW fw) (H_fw_B : wB fw) (H_fw_L : wL fw) : Met l yX11_setsMan kwX11_setsMan ({ frames := 0, cells := 0, slots := 0, locals := 0 } : Room) (kPre D (kT cI cJ cB cC) sz [(h, oX11 th aw ai ab ac hi re aP ta po en be de fa a5 sp av an ak ne aW aC ag aT aN aF), (aw, kcI cI 2179 fw)] [.ref h, .int mm, .int 3, .int v]) (va_Qv (fun (f0_ : (Nat → Int32)) => wB f0_ ∧ wL f0_ ∧ wW f0_ ∧ (f0_ 0 = fw 0) ∧ F_r_setsMan3k (gT fw) (mm : Int32).toInt (v : Int32).toInt = ((gT f0_))) (fun (f0_ : (Nat → Int32)) (t : State) => kB D (kT cI cJ cB cC) (va_A [(h, oX11 th aw ai ab ac hi re aP ta po en be de fa a5 sp av an ak ne aW aC ag aT aN aF), (aw, kcI cI 2179 fw)] sz) [(h, oX11 th aw ai ab ac hi re aP ta po en be de fa a5 sp av an ak ne aW aC ag aT aN aF), (aw, kcI cI 2179 f0_)] t) (va_A [(h, oX11 th aw ai ab ac hi re aP ta po en be de fa a5 sp av an ak ne aW aC ag aT aN aF), (aw, kcI cI 2179 fw)] sz)) 0 0 (va_A [(h, oX11 th aw ai ab ac hi re aP ta po en be de fa a5 sp av an ak ne aW aC ag aT aN aF), (aw, kcI cI 2179 fw)] sz) := by
  refine Met.ofW (cc := cX11_setsMan) (maxL := 4) (ret := none) (by decide) rfl ?_
  intro p e s m args below meth c s₁ B hml hv
  obtain ⟨rfl, hsz, hN, hE, hP, hK, hD0⟩ := hv
  have hx := B.exec
  have hb := B.bytes
  have hr := B.returns
  have hts := fun (w : Cond) (h : w ∈ kG) => atoms_spec (ws := kwX11_setsMan) B.pre w (List.mem_cons_of_mem _ h)
  have hown : s.vm.findClass RX11 = some m.cls := findClass_of_methodNamed B.named
  subst hsz
  have hD := hD0.self (sz := s.heap.size)
  generalize hAe : va_A [(h, oX11 th aw ai ab ac hi re aP ta po en be de fa a5 sp av an ak ne aW aC ag aT aN aF), (aw, kcI cI 2179 fw)] s.heap.size = A at hD hE ⊢
  have hA : ∀ q : Nat, s.heap.size ≤ q → A q := fun q h => by rw [← hAe]; exact Or.inr h
  have hl := lv_entry ([.ref h, .int mm, .int 3, .int v]) (n := 4) (Nat.le_of_ble_eq_true rfl)
  rw [lg_entry_eq]
  generalize (lg_sl ([.ref h, .int mm, .int 3, .int v]) ++ List.replicate (4 - (lg_sl ([.ref h, .int mm, .int 3, .int v])).length) Slot.unset).toArray = ls at hl ⊢
  have hl : lv_has ls 4 [(0, .ref h), (1, .int mm), (2, .int 3), (3, .int v)] := hl
  obtain ⟨H, hH0⟩ : ∃ H, H = s.heap := ⟨_, rfl⟩
  have hS : va_S A s.heap H [] := by rw [hH0]; exact va_S.rf
  have hP : va_P D vwCl [(h, oX11 th aw ai ab ac hi re aP ta po en be de fa a5 sp av an ak ne aW aC ag aT aN aF), (aw, kcI cI 2179 fw)] H := by rw [hH0]; exact hP
  refine kHeap hH0 ?_
  clear hH0
  refine lv_aload_n hx hb dX11_setsMan_0 rfl (lv_at hl 0 rfl) ?_
  refine va_get (D := D) (ci := 10) (v := .ref aw) (C := RX11) (T := TX11) (N := 26) hx hb hts iG_X11 hown hK hP 0 rfl rfl 1 (by decide) (hts _ w5_3) (fun _ h9 => h9) rfl dX11_setsMan_1 ?_
  refine lv_bipush (v := 11) hx hb dX11_setsMan_4 (by decide) ?_
  refine lv_iconst (v := 5) hx hb dX11_setsMan_6 (by decide) ?_
  refine lv_iload_n hx hb dX11_setsMan_7 rfl (lv_at hl 1 rfl) ?_
  refine lv_imul hx hb dX11_setsMan_8 ?_
  refine lv_topi (fun x1 ex1 => ?_)
  have tx1 : x1.toInt = 5 * mm.toInt := ti_mul ex1 (rg_lit (n := 5) (by decide)) H_mm (by decide) (by decide) rfl
  have k2 : Rg x1 0 45 := rg_mul ex1 (rg_lit (n := 5) (by decide)) H_mm (by decide)
  refine lv_iadd hx hb dX11_setsMan_9 ?_
  refine lv_topi (fun x3 ex3 => ?_)
  have tx3 : x3.toInt = 11 + x1.toInt := ti_add ex3 (rg_lit (n := 11) (by decide)) k2 (by decide) (by decide) rfl
  have k4 : Rg x3 11 56 := rg_add ex3 (rg_lit (n := 11) (by decide)) k2 (by decide)
  refine lv_iload_n hx hb dX11_setsMan_10 rfl (lv_at hl 2 rfl) ?_
  refine lv_iadd hx hb dX11_setsMan_11 ?_
  refine lv_topi (fun x5 ex5 => ?_)
  have tx5 : x5.toInt = x3.toInt + 3 := ti_add ex5 k4 (rg_lit (n := 3) (by decide)) (by decide) rfl (by decide)
  have k6 : Rg x5 14 59 := rg_add ex5 k4 (rg_lit (n := 3) (by decide)) (by decide)
  refine lv_iload_n hx hb dX11_setsMan_12 rfl (lv_at hl 3 rfl) ?_
  refine va_iast hx hb hK hP hD hS 1 0 rfl rfl (rg_in k6 (by decide)) dX11_setsMan_13 (fun H locs hP hD hS => ?_)
  have hP : va_P D vwCl [(h, oX11 th aw ai ab ac hi re aP ta po en be de fa a5 sp av an ak ne aW aC ag aT aN aF), (aw, kcI cI 2179 (upd fw x5.toNatClampNeg v))] H := hP
  have hD : va_D A [(h, oX11 th aw ai ab ac hi re aP ta po en be de fa a5 sp av an ak ne aW aC ag aT aN aF), (aw, kcI cI 2179 (upd fw x5.toNatClampNeg v))] := hD
  have k8 : wW (upd fw x5.toNatClampNeg v) := wW_man 3 H_fw_W H_mm (by omega) (by omega) (by omega) (by omega)
  have k9 : wB (upd fw x5.toNatClampNeg v) := wB_lo H_fw_B H_fw_W k6 (by decide)
  have k10 : wL (upd fw x5.toNatClampNeg v) := wL_out H_fw_L k6 (by decide)
  generalize hg7 : (upd fw x5.toNatClampNeg v) = g7 at hP hD k8 k9 k10
  have hP9 := hP.sub (ws' := [(h, oX11 th aw ai ab ac hi re aP ta po en be de fa a5 sp av an ak ne aW aC ag aT aN aF), (aw, kcI cI 2179 g7)]) [0, 1] rfl
  have hD9 := hD.sub (ws' := [(h, oX11 th aw ai ab ac hi re aP ta po en be de fa a5 sp av an ak ne aW aC ag aT aN aF), (aw, kcI cI 2179 g7)]) [0, 1] (by decide) rfl
  exact W.vret hx hb hr (fun t ht hW => ⟨⟨(g7), rfl, ⟨k9, k10, k8, (by rw [← hg7]; exact upd_0 k6 (by decide)), (kLet_eq (ti_mul ex1 (rg_lit (n := 5) (by decide)) H_mm (by decide) rfl rfl) (kLet_eq (ti_add ex3 (rg_lit (n := 11) (by decide)) k2 (by decide) rfl rfl) (kLet_eq (ti_add ex5 k4 (rg_lit (n := 3) (by decide)) (by decide) rfl rfl) (kLet_eq (ke_st hg7) rfl))))⟩, by rw [ht]; exact hP9, va_K.moved hW.alike hK, hD9⟩, hS.F ht⟩) hS.2.2 dX11_setsMan_14

set_option maxHeartbeats 4000000 in
set_option maxRecDepth 100000 in
/-- reference: setsMan -/
theorem r_setsMan4k (l : Launch) (D : va_G) (cI cJ cB cC : ClassId) (h : Nat) (th : Int32) (aw : Nat) (ai : Nat) (ab : Nat) (ac : Nat) (hi : Int32) (re : Int32) (aP : Nat) (ta : Int32) (po : Int32) (en : Int32) (be : Int32) (de : Int32) (fa : Int32) (a5 : Nat) (sp : Int32) (av : Nat) (an : Nat) (ak : Nat) (ne : Int32) (aW : Nat) (aC : Nat) (ag : Nat) (aT : Nat) (aN : Nat) (aF : Nat) (fw : Nat → Int32) (mm : Int32) (v : Int32) (sz : Nat) (H_mm : Rg mm 0 9) (H_v : Rg v (-1) 11) (H_fw_W : wW fw) (H_fw_B : wB fw) (H_fw_L : wL fw) : Met l yX11_setsMan kwX11_setsMan ({ frames := 0, cells := 0, slots := 0, locals := 0 } : Room) (kPre D (kT cI cJ cB cC) sz [(h, oX11 th aw ai ab ac hi re aP ta po en be de fa a5 sp av an ak ne aW aC ag aT aN aF), (aw, kcI cI 2179 fw)] [.ref h, .int mm, .int 4, .int v]) (va_Qv (fun (f0_ : (Nat → Int32)) => wB f0_ ∧ wL f0_ ∧ wW f0_ ∧ (f0_ 0 = fw 0) ∧ F_r_setsMan4k (gT fw) (mm : Int32).toInt (v : Int32).toInt = ((gT f0_))) (fun (f0_ : (Nat → Int32)) (t : State) => kB D (kT cI cJ cB cC) (va_A [(h, oX11 th aw ai ab ac hi re aP ta po en be de fa a5 sp av an ak ne aW aC ag aT aN aF), (aw, kcI cI 2179 fw)] sz) [(h, oX11 th aw ai ab ac hi re aP ta po en be de fa a5 sp av an ak ne aW aC ag aT aN aF), (aw, kcI cI 2179 f0_)] t) (va_A [(h, oX11 th aw ai ab ac hi re aP ta po en be de fa a5 sp av an ak ne aW aC ag aT aN aF), (aw, kcI cI 2179 fw)] sz)) 0 0 (va_A [(h, oX11 th aw ai ab ac hi re aP ta po en be de fa a5 sp av an ak ne aW aC ag aT aN aF), (aw, kcI cI 2179 fw)] sz) := by
  refine Met.ofW (cc := cX11_setsMan) (maxL := 4) (ret := none) (by decide) rfl ?_
  intro p e s m args below meth c s₁ B hml hv
  obtain ⟨rfl, hsz, hN, hE, hP, hK, hD0⟩ := hv
  have hx := B.exec
  have hb := B.bytes
  have hr := B.returns
  have hts := fun (w : Cond) (h : w ∈ kG) => atoms_spec (ws := kwX11_setsMan) B.pre w (List.mem_cons_of_mem _ h)
  have hown : s.vm.findClass RX11 = some m.cls := findClass_of_methodNamed B.named
  subst hsz
  have hD := hD0.self (sz := s.heap.size)
  generalize hAe : va_A [(h, oX11 th aw ai ab ac hi re aP ta po en be de fa a5 sp av an ak ne aW aC ag aT aN aF), (aw, kcI cI 2179 fw)] s.heap.size = A at hD hE ⊢
  have hA : ∀ q : Nat, s.heap.size ≤ q → A q := fun q h => by rw [← hAe]; exact Or.inr h
  have hl := lv_entry ([.ref h, .int mm, .int 4, .int v]) (n := 4) (Nat.le_of_ble_eq_true rfl)
  rw [lg_entry_eq]
  generalize (lg_sl ([.ref h, .int mm, .int 4, .int v]) ++ List.replicate (4 - (lg_sl ([.ref h, .int mm, .int 4, .int v])).length) Slot.unset).toArray = ls at hl ⊢
  have hl : lv_has ls 4 [(0, .ref h), (1, .int mm), (2, .int 4), (3, .int v)] := hl
  obtain ⟨H, hH0⟩ : ∃ H, H = s.heap := ⟨_, rfl⟩
  have hS : va_S A s.heap H [] := by rw [hH0]; exact va_S.rf
  have hP : va_P D vwCl [(h, oX11 th aw ai ab ac hi re aP ta po en be de fa a5 sp av an ak ne aW aC ag aT aN aF), (aw, kcI cI 2179 fw)] H := by rw [hH0]; exact hP
  refine kHeap hH0 ?_
  clear hH0
  refine lv_aload_n hx hb dX11_setsMan_0 rfl (lv_at hl 0 rfl) ?_
  refine va_get (D := D) (ci := 10) (v := .ref aw) (C := RX11) (T := TX11) (N := 26) hx hb hts iG_X11 hown hK hP 0 rfl rfl 1 (by decide) (hts _ w5_3) (fun _ h9 => h9) rfl dX11_setsMan_1 ?_
  refine lv_bipush (v := 11) hx hb dX11_setsMan_4 (by decide) ?_
  refine lv_iconst (v := 5) hx hb dX11_setsMan_6 (by decide) ?_
  refine lv_iload_n hx hb dX11_setsMan_7 rfl (lv_at hl 1 rfl) ?_
  refine lv_imul hx hb dX11_setsMan_8 ?_
  refine lv_topi (fun x1 ex1 => ?_)
  have tx1 : x1.toInt = 5 * mm.toInt := ti_mul ex1 (rg_lit (n := 5) (by decide)) H_mm (by decide) (by decide) rfl
  have k2 : Rg x1 0 45 := rg_mul ex1 (rg_lit (n := 5) (by decide)) H_mm (by decide)
  refine lv_iadd hx hb dX11_setsMan_9 ?_
  refine lv_topi (fun x3 ex3 => ?_)
  have tx3 : x3.toInt = 11 + x1.toInt := ti_add ex3 (rg_lit (n := 11) (by decide)) k2 (by decide) (by decide) rfl
  have k4 : Rg x3 11 56 := rg_add ex3 (rg_lit (n := 11) (by decide)) k2 (by decide)
  refine lv_iload_n hx hb dX11_setsMan_10 rfl (lv_at hl 2 rfl) ?_
  refine lv_iadd hx hb dX11_setsMan_11 ?_
  refine lv_topi (fun x5 ex5 => ?_)
  have tx5 : x5.toInt = x3.toInt + 4 := ti_add ex5 k4 (rg_lit (n := 4) (by decide)) (by decide) rfl (by decide)
  have k6 : Rg x5 15 60 := rg_add ex5 k4 (rg_lit (n := 4) (by decide)) (by decide)
  refine lv_iload_n hx hb dX11_setsMan_12 rfl (lv_at hl 3 rfl) ?_
  refine va_iast hx hb hK hP hD hS 1 0 rfl rfl (rg_in k6 (by decide)) dX11_setsMan_13 (fun H locs hP hD hS => ?_)
  have hP : va_P D vwCl [(h, oX11 th aw ai ab ac hi re aP ta po en be de fa a5 sp av an ak ne aW aC ag aT aN aF), (aw, kcI cI 2179 (upd fw x5.toNatClampNeg v))] H := hP
  have hD : va_D A [(h, oX11 th aw ai ab ac hi re aP ta po en be de fa a5 sp av an ak ne aW aC ag aT aN aF), (aw, kcI cI 2179 (upd fw x5.toNatClampNeg v))] := hD
  have k8 : wW (upd fw x5.toNatClampNeg v) := wW_man 4 H_fw_W H_mm (by omega) (by omega) (by omega) (fun _ => H_v)
  have k9 : wB (upd fw x5.toNatClampNeg v) := wB_lo H_fw_B H_fw_W k6 (by decide)
  have k10 : wL (upd fw x5.toNatClampNeg v) := wL_out H_fw_L k6 (by decide)
  generalize hg7 : (upd fw x5.toNatClampNeg v) = g7 at hP hD k8 k9 k10
  have hP9 := hP.sub (ws' := [(h, oX11 th aw ai ab ac hi re aP ta po en be de fa a5 sp av an ak ne aW aC ag aT aN aF), (aw, kcI cI 2179 g7)]) [0, 1] rfl
  have hD9 := hD.sub (ws' := [(h, oX11 th aw ai ab ac hi re aP ta po en be de fa a5 sp av an ak ne aW aC ag aT aN aF), (aw, kcI cI 2179 g7)]) [0, 1] (by decide) rfl
  exact W.vret hx hb hr (fun t ht hW => ⟨⟨(g7), rfl, ⟨k9, k10, k8, (by rw [← hg7]; exact upd_0 k6 (by decide)), (kLet_eq (ti_mul ex1 (rg_lit (n := 5) (by decide)) H_mm (by decide) rfl rfl) (kLet_eq (ti_add ex3 (rg_lit (n := 11) (by decide)) k2 (by decide) rfl rfl) (kLet_eq (ti_add ex5 k4 (rg_lit (n := 4) (by decide)) (by decide) rfl rfl) (kLet_eq (ke_st hg7) rfl))))⟩, by rw [ht]; exact hP9, va_K.moved hW.alike hK, hD9⟩, hS.F ht⟩) hS.2.2 dX11_setsMan_14

def kwX11_readMan : List Cond := .code yX11_readMan cX11_readMan 6 (some .boolean) :: kG
theorem hdX11_readMan : yX11_readMan.cls ≠ "java/lang/invoke/MethodHandle" ∧ yX11_readMan.cls ≠ "java/lang/invoke/VarHandle" ∧ (parseMethodDescriptor yX11_readMan.desc).map (fun d => d.parameters.length) = some 0 := by decide +kernel
theorem gX11_readMan_X11_after : GoodIn kG (wsV RX11 130 RX11 yX11_after kwX11_after) := gK w20_1 (gK w20_2 (gK w20_3 (gK w0_5 (gK w20_4 gGG))))
theorem gX11_readMan_X11_colour : GoodIn kG (wsV RX11 138 RX11 yX11_colour kwX11_colour) := gK w20_5 (gK w20_6 (gK w20_7 (gK w0_5 (gK w20_8 gGG))))
theorem gX11_readMan_X11_isWord : GoodIn kG (wsV RX11 114 RX11 yX11_isWord kwX11_isWord) := gK w19_7 (gK w19_8 (gK w19_9 (gK w0_5 (gK w19_10 gGG))))
theorem gX11_readMan_X11_letters : GoodIn kG (wsV RX11 111 RX11 yX11_letters kwX11_letters) := gK w18_23 (gK w19_0 (gK w19_1 (gK w0_5 (gK w19_2 gGG))))
theorem gX11_readMan_X11_men : GoodIn kG (wsV RX11 71 RX11 yX11_men kwX11_men) := gK w19_17 (gK w19_18 (gK w19_19 (gK w0_5 (gK w19_20 gGG))))
theorem gX11_readMan_X11_number : GoodIn kG (wsV RX11 118 RX11 yX11_number kwX11_number) := gK w19_21 (gK w19_22 (gK w19_23 (gK w0_5 (gK w20_0 gGG))))
theorem gX11_readMan_X11_setsMan : GoodIn kG (wsV RX11 141 RX11 yX11_setsMan kwX11_setsMan) := gK w20_9 (gK w20_10 (gK w20_11 (gK w0_5 (gK w20_12 gGG))))
theorem dX11_readMan_0 : decode cX11_readMan 0 = .ok (.aload_n 0, 1) := by decide +kernel
theorem dX11_readMan_1 : decode cX11_readMan 1 = .ok (.invokevirtual 71, 3) := by decide +kernel
theorem dX11_readMan_4 : decode cX11_readMan 4 = .ok (.istore_n 1, 1) := by decide +kernel
theorem dX11_readMan_5 : decode cX11_readMan 5 = .ok (.iload_n 1, 1) := by decide +kernel
theorem dX11_readMan_6 : decode cX11_readMan 6 = .ok (.bipush 10, 2) := by decide +kernel
theorem dX11_readMan_8 : decode cX11_readMan 8 = .ok (.if_icmp .ne 5, 3) := by decide +kernel
theorem dX11_readMan_11 : decode cX11_readMan 11 = .ok (.iconst 0, 1) := by decide +kernel
theorem dX11_readMan_12 : decode cX11_readMan 12 = .ok (.ireturn, 1) := by decide +kernel
theorem dX11_readMan_13 : decode cX11_readMan 13 = .ok (.aload_n 0, 1) := by decide +kernel
theorem dX11_readMan_14 : decode cX11_readMan 14 = .ok (.iconst 0, 1) := by decide +kernel
theorem dX11_readMan_15 : decode cX11_readMan 15 = .ok (.bipush 99, 2) := by decide +kernel
theorem dX11_readMan_17 : decode cX11_readMan 17 = .ok (.invokevirtual 118, 3) := by decide +kernel
theorem dX11_readMan_20 : decode cX11_readMan 20 = .ok (.istore_n 2, 1) := by decide +kernel
theorem dX11_readMan_21 : decode cX11_readMan 21 = .ok (.iload_n 2, 1) := by decide +kernel
theorem dX11_readMan_22 : decode cX11_readMan 22 = .ok (.ifCond .ge 7, 3) := by decide +kernel
theorem dX11_readMan_25 : decode cX11_readMan 25 = .ok (.iconst (-1), 1) := by decide +kernel
theorem dX11_readMan_26 : decode cX11_readMan 26 = .ok (.goto 12, 3) := by decide +kernel
theorem dX11_readMan_29 : decode cX11_readMan 29 = .ok (.aload_n 0, 1) := by decide +kernel
theorem dX11_readMan_30 : decode cX11_readMan 30 = .ok (.ldc 128, 2) := by decide +kernel
theorem dX11_readMan_32 : decode cX11_readMan 32 = .ok (.iconst 0, 1) := by decide +kernel
theorem dX11_readMan_33 : decode cX11_readMan 33 = .ok (.bipush 9, 2) := by decide +kernel
theorem dX11_readMan_35 : decode cX11_readMan 35 = .ok (.invokevirtual 130, 3) := by decide +kernel
theorem dX11_readMan_38 : decode cX11_readMan 38 = .ok (.istore_n 3, 1) := by decide +kernel
theorem dX11_readMan_39 : decode cX11_readMan 39 = .ok (.iload_n 3, 1) := by decide +kernel
theorem dX11_readMan_40 : decode cX11_readMan 40 = .ok (.ifCond .ge 7, 3) := by decide +kernel
theorem dX11_readMan_43 : decode cX11_readMan 43 = .ok (.iconst (-1), 1) := by decide +kernel
theorem dX11_readMan_44 : decode cX11_readMan 44 = .ok (.goto 12, 3) := by decide +kernel
theorem dX11_readMan_47 : decode cX11_readMan 47 = .ok (.aload_n 0, 1) := by decide +kernel
theorem dX11_readMan_48 : decode cX11_readMan 48 = .ok (.ldc 134, 2) := by decide +kernel
theorem dX11_readMan_50 : decode cX11_readMan 50 = .ok (.iconst 0, 1) := by decide +kernel
theorem dX11_readMan_51 : decode cX11_readMan 51 = .ok (.bipush 9, 2) := by decide +kernel
theorem dX11_readMan_53 : decode cX11_readMan 53 = .ok (.invokevirtual 130, 3) := by decide +kernel
theorem dX11_readMan_56 : decode cX11_readMan 56 = .ok (.istore 4, 2) := by decide +kernel
theorem dX11_readMan_58 : decode cX11_readMan 58 = .ok (.iload 4, 2) := by decide +kernel
theorem dX11_readMan_60 : decode cX11_readMan 60 = .ok (.ifCond .ge 5, 3) := by decide +kernel
theorem dX11_readMan_63 : decode cX11_readMan 63 = .ok (.iconst 0, 1) := by decide +kernel
theorem dX11_readMan_64 : decode cX11_readMan 64 = .ok (.ireturn, 1) := by decide +kernel
theorem dX11_readMan_65 : decode cX11_readMan 65 = .ok (.aload_n 0, 1) := by decide +kernel
theorem dX11_readMan_66 : decode cX11_readMan 66 = .ok (.invokevirtual 111, 3) := by decide +kernel
theorem dX11_readMan_69 : decode cX11_readMan 69 = .ok (.aload_n 0, 1) := by decide +kernel
theorem dX11_readMan_70 : decode cX11_readMan 70 = .ok (.ldc 136, 2) := by decide +kernel
theorem dX11_readMan_72 : decode cX11_readMan 72 = .ok (.invokevirtual 114, 3) := by decide +kernel
theorem dX11_readMan_75 : decode cX11_readMan 75 = .ok (.ifCond .eq 10, 3) := by decide +kernel
theorem dX11_readMan_78 : decode cX11_readMan 78 = .ok (.aload_n 0, 1) := by decide +kernel
theorem dX11_readMan_79 : decode cX11_readMan 79 = .ok (.invokevirtual 138, 3) := by decide +kernel
theorem dX11_readMan_82 : decode cX11_readMan 82 = .ok (.goto 4, 3) := by decide +kernel
theorem dX11_readMan_85 : decode cX11_readMan 85 = .ok (.iconst (-1), 1) := by decide +kernel
theorem dX11_readMan_86 : decode cX11_readMan 86 = .ok (.istore 5, 2) := by decide +kernel
theorem dX11_readMan_88 : decode cX11_readMan 88 = .ok (.iload 5, 2) := by decide +kernel
theorem dX11_readMan_90 : decode cX11_readMan 90 = .ok (.ifCond .ge 5, 3) := by decide +kernel
theorem dX11_readMan_93 : decode cX11_readMan 93 = .ok (.iconst 0, 1) := by decide +kernel
theorem dX11_readMan_94 : decode cX11_readMan 94 = .ok (.ireturn, 1) := by decide +kernel
theorem dX11_readMan_95 : decode cX11_readMan 95 = .ok (.aload_n 0, 1) := by decide +kernel
theorem dX11_readMan_96 : decode cX11_readMan 96 = .ok (.iload_n 1, 1) := by decide +kernel
theorem dX11_readMan_97 : decode cX11_readMan 97 = .ok (.iconst 0, 1) := by decide +kernel
theorem dX11_readMan_98 : decode cX11_readMan 98 = .ok (.iload_n 2, 1) := by decide +kernel
theorem dX11_readMan_99 : decode cX11_readMan 99 = .ok (.invokevirtual 141, 3) := by decide +kernel
theorem dX11_readMan_102 : decode cX11_readMan 102 = .ok (.aload_n 0, 1) := by decide +kernel
theorem dX11_readMan_103 : decode cX11_readMan 103 = .ok (.iload_n 1, 1) := by decide +kernel
theorem dX11_readMan_104 : decode cX11_readMan 104 = .ok (.iconst 1, 1) := by decide +kernel
theorem dX11_readMan_105 : decode cX11_readMan 105 = .ok (.iload_n 3, 1) := by decide +kernel
theorem dX11_readMan_106 : decode cX11_readMan 106 = .ok (.invokevirtual 141, 3) := by decide +kernel
theorem dX11_readMan_109 : decode cX11_readMan 109 = .ok (.aload_n 0, 1) := by decide +kernel
theorem dX11_readMan_110 : decode cX11_readMan 110 = .ok (.iload_n 1, 1) := by decide +kernel
theorem dX11_readMan_111 : decode cX11_readMan 111 = .ok (.iconst 2, 1) := by decide +kernel
theorem dX11_readMan_112 : decode cX11_readMan 112 = .ok (.iload 4, 2) := by decide +kernel
theorem dX11_readMan_114 : decode cX11_readMan 114 = .ok (.invokevirtual 141, 3) := by decide +kernel
theorem dX11_readMan_117 : decode cX11_readMan 117 = .ok (.aload_n 0, 1) := by decide +kernel
theorem dX11_readMan_118 : decode cX11_readMan 118 = .ok (.iload_n 1, 1) := by decide +kernel
theorem dX11_readMan_119 : decode cX11_readMan 119 = .ok (.iconst 3, 1) := by decide +kernel
theorem dX11_readMan_120 : decode cX11_readMan 120 = .ok (.iload 5, 2) := by decide +kernel
theorem dX11_readMan_122 : decode cX11_readMan 122 = .ok (.invokevirtual 141, 3) := by decide +kernel
theorem dX11_readMan_125 : decode cX11_readMan 125 = .ok (.aload_n 0, 1) := by decide +kernel
theorem dX11_readMan_126 : decode cX11_readMan 126 = .ok (.iload_n 1, 1) := by decide +kernel
theorem dX11_readMan_127 : decode cX11_readMan 127 = .ok (.iconst 4, 1) := by decide +kernel
theorem dX11_readMan_128 : decode cX11_readMan 128 = .ok (.iconst (-1), 1) := by decide +kernel
theorem dX11_readMan_129 : decode cX11_readMan 129 = .ok (.invokevirtual 141, 3) := by decide +kernel
theorem dX11_readMan_132 : decode cX11_readMan 132 = .ok (.aload_n 0, 1) := by decide +kernel
theorem dX11_readMan_133 : decode cX11_readMan 133 = .ok (.getfield 13, 3) := by decide +kernel
theorem dX11_readMan_136 : decode cX11_readMan 136 = .ok (.iconst 0, 1) := by decide +kernel
theorem dX11_readMan_137 : decode cX11_readMan 137 = .ok (.dup2, 1) := by decide +kernel
theorem dX11_readMan_138 : decode cX11_readMan 138 = .ok (.iaload, 1) := by decide +kernel
theorem dX11_readMan_139 : decode cX11_readMan 139 = .ok (.iconst 1, 1) := by decide +kernel
theorem dX11_readMan_140 : decode cX11_readMan 140 = .ok (.iadd, 1) := by decide +kernel
theorem dX11_readMan_141 : decode cX11_readMan 141 = .ok (.iastore, 1) := by decide +kernel
theorem dX11_readMan_142 : decode cX11_readMan 142 = .ok (.iconst 1, 1) := by decide +kernel
theorem dX11_readMan_143 : decode cX11_readMan 143 = .ok (.ireturn, 1) := by decide +kernel
set_option maxHeartbeats 4000000 in
set_option maxRecDepth 100000 in
/-- reference: readMan -/
theorem r_readMan (l : Launch) (D : va_G) (cI cJ cB cC : ClassId) (h : Nat) (th : Int32) (aw : Nat) (ai : Nat) (ab : Nat) (ac : Nat) (hi : Int32) (re : Int32) (aP : Nat) (ta : Int32) (po : Int32) (en : Int32) (be : Int32) (de : Int32) (fa : Int32) (a5 : Nat) (sp : Int32) (av : Nat) (an : Nat) (ak : Nat) (ne : Int32) (aW : Nat) (aC : Nat) (ag : Nat) (aT : Nat) (aN : Nat) (aF : Nat) (fw : Nat → Int32) (ft : Nat → Int32) (sz : Nat) (H_po : Rg po 0 400) (H_en : Rg en 0 400) (H_fw_W : wW fw) (H_fw_B : wB fw) (H_fw_L : wL fw) : Met l yX11_readMan kwX11_readMan ({ frames := 6, cells := 0, slots := 0, locals := 131 } : Room) (kPre D (kT cI cJ cB cC) sz [(h, oX11 th aw ai ab ac hi re aP ta po en be de fa a5 sp av an ak ne aW aC ag aT aN aF), (aw, kcI cI 2179 fw), (aP, .inl (cB, 400, .inl ft))] [.ref h]) (va_Qi (fun (r : Int32) (uu : Int32 × Int32 × (Nat → Int32)) => match uu with | (n0_, n1_, f2_) => Rg n0_ 0 400 ∧ wB f2_ ∧ wL f2_ ∧ wW f2_ ∧ F_r_readMan (po : Int32).toInt (en : Int32).toInt (be : Int32).toInt (gT fw) (gT ft) = ((r : Int32).toInt, (n0_ : Int32).toInt, (n1_ : Int32).toInt, (gT f2_)) ∧ ((r = 0) ∨ (r = 1))) (fun (uu : Int32 × Int32 × (Nat → Int32)) (t : State) => match uu with | (n0_, n1_, f2_) => kB D (kT cI cJ cB cC) (va_A [(h, oX11 th aw ai ab ac hi re aP ta po en be de fa a5 sp av an ak ne aW aC ag aT aN aF), (aw, kcI cI 2179 fw), (aP, .inl (cB, 400, .inl ft))] sz) [(h, oX11 th aw ai ab ac hi re aP ta n0_ en n1_ de fa a5 sp av an ak ne aW aC ag aT aN aF), (aw, kcI cI 2179 f2_), (aP, .inl (cB, 400, .inl ft))] t) (va_A [(h, oX11 th aw ai ab ac hi re aP ta po en be de fa a5 sp av an ak ne aW aC ag aT aN aF), (aw, kcI cI 2179 fw), (aP, .inl (cB, 400, .inl ft))] sz)) 0 0 (va_A [(h, oX11 th aw ai ab ac hi re aP ta po en be de fa a5 sp av an ak ne aW aC ag aT aN aF), (aw, kcI cI 2179 fw), (aP, .inl (cB, 400, .inl ft))] sz) := by
  refine Met.ofW (cc := cX11_readMan) (maxL := 6) (ret := (some .boolean)) (by decide) rfl ?_
  intro p e s m args below meth c s₁ B hml hv
  obtain ⟨rfl, hsz, hN, hE, hP, hK, hD0⟩ := hv
  have hx := B.exec
  have hb := B.bytes
  have hr := B.returns
  have hts := fun (w : Cond) (h : w ∈ kG) => atoms_spec (ws := kwX11_readMan) B.pre w (List.mem_cons_of_mem _ h)
  have hown : s.vm.findClass RX11 = some m.cls := findClass_of_methodNamed B.named
  subst hsz
  have hD := hD0.self (sz := s.heap.size)
  generalize hAe : va_A [(h, oX11 th aw ai ab ac hi re aP ta po en be de fa a5 sp av an ak ne aW aC ag aT aN aF), (aw, kcI cI 2179 fw), (aP, .inl (cB, 400, .inl ft))] s.heap.size = A at hD hE ⊢
  have hA : ∀ q : Nat, s.heap.size ≤ q → A q := fun q h => by rw [← hAe]; exact Or.inr h
  have hl := lv_entry ([.ref h]) (n := 6) (Nat.le_of_ble_eq_true rfl)
  rw [lg_entry_eq]
  generalize (lg_sl ([.ref h]) ++ List.replicate (6 - (lg_sl ([.ref h])).length) Slot.unset).toArray = ls at hl ⊢
  have hl : lv_has ls 6 [(0, .ref h)] := hl
  obtain ⟨H, hH0⟩ : ∃ H, H = s.heap := ⟨_, rfl⟩
  have hS : va_S A s.heap H [] := by rw [hH0]; exact va_S.rf
  have hP : va_P D vwCl [(h, oX11 th aw ai ab ac hi re aP ta po en be de fa a5 sp av an ak ne aW aC ag aT aN aF), (aw, kcI cI 2179 fw), (aP, .inl (cB, 400, .inl ft))] H := by rw [hH0]; exact hP
  refine kHeap hH0 ?_
  clear hH0
  refine lv_aload_n hx hb dX11_readMan_0 rfl (lv_at hl 0 rfl) ?_
  refine kpurei (wc := [(h, oX11 th aw ai ab ac hi re aP ta po en be de fa a5 sp av an ak ne aW aC ag aT aN aF), (aw, kcI cI 2179 fw)]) hP hD hS hA [0, 1] rfl (by decide) (fun hPc hDc hFc => va_runV (As := []) (rest := []) ⟨hx, hb, hml, hown, hts⟩ (r_men l D cI cJ cB cC h th aw ai ab ac hi re aP ta po en be de fa a5 sp av an ak ne aW aC ag aT aN aF fw H.size H_fw_W) (cwV 0 hts gX11_readMan_X11_men rfl rfl rfl ⟨rfl, hdX11_men⟩ ⟨Nat.le_of_ble_eq_true rfl, Nat.le_of_ble_eq_true rfl⟩) ⟨kBlind, va_recv hK hPc (ci := 10) (q0 := 0) rfl rfl, fun U hU hW => ⟨rfl, by rw [hU], hN.warm hW, hE.pass hS hFc hW hU, by rw [hU]; exact hPc, va_K.moved hW.alike hK, hDc⟩⟩ rfl rfl hl.1 rfl (lv_room (Nat.le_of_ble_eq_true rfl)) dX11_readMan_1 ⟨Nat.le_of_ble_eq_true rfl, Nat.le_of_ble_eq_true rfl⟩) (fun r1 u H locs hw hP hS => ?_)
  obtain ⟨k2, k3, k4⟩ := hw
  refine lv_istore_n (lv' := [(1, .int r1), (0, .ref h)]) hx hb dX11_readMan_4 rfl hl (by decide) rfl (fun ls hl => ?_)
  refine lv_iload_n hx hb dX11_readMan_5 rfl (lv_at hl 0 rfl) ?_
  refine lv_bipush (v := 10) hx hb dX11_readMan_6 (by decide) ?_
  refine lv_icmp_ne (tgt := 13) hx hb dX11_readMan_8 (by decide) (fun c5 => ?_) (fun c5 => ?_)
  · skip
    have k6 : Rg r1 0 9 := rg_n1 (neI c5) k3 (rg_lit (n := 10) (by decide)) (by decide)
    refine lv_aload_n hx hb dX11_readMan_13 rfl (lv_at hl 1 rfl) ?_
    refine lv_iconst (v := 0) hx hb dX11_readMan_14 (by decide) ?_
    refine lv_bipush (v := 99) hx hb dX11_readMan_15 (by decide) ?_
    refine kcalli (wc := [(h, oX11 th aw ai ab ac hi re aP ta po en be de fa a5 sp av an ak ne aW aC ag aT aN aF), (aP, .inl (cB, 400, .inl ft))]) (wr := [(aw, kcI cI 2179 fw)]) hP hD hS hA [0, 2] [1] rfl rfl (by decide) (by decide) (by decide) (fun hPc hDc hFc => va_runV (As := [.int 0, .int 99]) (rest := []) ⟨hx, hb, hml, hown, hts⟩ (r_number_99 l D cI cJ cB cC h th aw ai ab ac hi re aP ta po en be de fa a5 sp av an ak ne aW aC ag aT aN aF ft H.size H_po H_en) (cwV 2 hts gX11_readMan_X11_number rfl rfl rfl ⟨rfl, hdX11_number⟩ ⟨Nat.le_of_ble_eq_true rfl, Nat.le_of_ble_eq_true rfl⟩) ⟨kBlind, va_recv hK hPc (ci := 10) (q0 := 0) rfl rfl, fun U hU hW => ⟨rfl, by rw [hU], hN.warm hW, hE.pass hS hFc hW hU, by rw [hU]; exact hPc, va_K.moved hW.alike hK, hDc⟩⟩ rfl rfl hl.1 rfl (lv_room (Nat.le_of_ble_eq_true rfl)) dX11_readMan_17 ⟨Nat.le_of_ble_eq_true rfl, Nat.le_of_ble_eq_true rfl⟩) (fun r7 u H locs hw hP hD hS => ?_)
    obtain ⟨x8, x9⟩ := u
    have hP : va_P D vwCl [(aw, kcI cI 2179 fw), (h, oX11 th aw ai ab ac hi re aP ta x8 en x9 de fa a5 sp av an ak ne aW aC ag aT aN aF), (aP, .inl (cB, 400, .inl ft))] H := hP
    have hD : va_D A [(aw, kcI cI 2179 fw), (h, oX11 th aw ai ab ac hi re aP ta x8 en x9 de fa a5 sp av an ak ne aW aC ag aT aN aF), (aP, .inl (cB, 400, .inl ft))] := hD
    obtain ⟨k10, k11, k12, k13, k14, k15⟩ := hw
    refine lv_istore_n (lv' := [(2, .int r7), (1, .int r1), (0, .ref h)]) hx hb dX11_readMan_20 rfl hl (by decide) rfl (fun ls hl => ?_)
    refine lv_iload_n hx hb dX11_readMan_21 rfl (lv_at hl 0 rfl) ?_
    refine k_join (hd := 38) (cells2 := 0) (slots2 := 0) (fun (u : Int32 × Int32 × Int32) => match u with | (z33, y34, y35) => [.int z33]) (fun (u : Int32 × Int32 × Int32) (H : Heap) (locs : List Loc) (ls : Array Slot) => match u with | (z33, y34, y35) => (F_r_readMan po.toInt en.toInt be.toInt (gT fw) (gT ft) = F_r_readMan_j1 en.toInt (gT fw) (gT ft) r1.toInt r7.toInt z33.toInt y34.toInt y35.toInt) ∧ Rg z33 (-1) 9 ∧ Rg y34 0 400 ∧ Rg y35 0 400 ∧ va_P D vwCl [(aw, kcI cI 2179 fw), (h, oX11 th aw ai ab ac hi re aP ta y34 en y35 de fa a5 sp av an ak ne aW aC ag aT aN aF), (aP, .inl (cB, 400, .inl ft))] H ∧ va_D A [(aw, kcI cI 2179 fw), (h, oX11 th aw ai ab ac hi re aP ta y34 en y35 de fa a5 sp av an ak ne aW aC ag aT aN aF), (aP, .inl (cB, 400, .inl ft))] ∧ va_S A s.heap H locs ∧ lv_has ls 6 [(2, .int r7), (1, .int r1), (0, .ref h)]) (fun u H locs ls hI => ?_) (fun hJ38 => ?_)
    · skip
      clear hP hD hS hl
      obtain ⟨z33, y34, y35⟩ := u
      obtain ⟨hF1, hz33, hy34, hy35, hP, hD, hS, hl⟩ := hI
      have hP : va_P D vwCl [(aw, kcI cI 2179 fw), (h, oX11 th aw ai ab ac hi re aP ta y34 en y35 de fa a5 sp av an ak ne aW aC ag aT aN aF), (aP, .inl (cB, 400, .inl ft))] H := hP
      have hD : va_D A [(aw, kcI cI 2179 fw), (h, oX11 th aw ai ab ac hi re aP ta y34 en y35 de fa a5 sp av an ak ne aW aC ag aT aN aF), (aP, .inl (cB, 400, .inl ft))] := hD
      have hl : lv_has ls 6 [(2, .int r7), (1, .int r1), (0, .ref h)] := hl
      show W _ _ _ _ _ _ _ _ _ _ _ _ _ _ _ (F0 m 38 ls [.int z33])
      refine lv_istore_n (lv' := [(3, .int z33), (2, .int r7), (1, .int r1), (0, .ref h)]) hx hb dX11_readMan_38 rfl hl (by decide) rfl (fun ls hl => ?_)
      refine lv_iload_n hx hb dX11_readMan_39 rfl (lv_at hl 0 rfl) ?_
      refine k_join (hd := 56) (cells2 := 0) (slots2 := 0) (fun (u : Int32 × Int32 × Int32) => match u with | (z53, y54, y55) => [.int z53]) (fun (u : Int32 × Int32 × Int32) (H : Heap) (locs : List Loc) (ls : Array Slot) => match u with | (z53, y54, y55) => (F_r_readMan po.toInt en.toInt be.toInt (gT fw) (gT ft) = F_r_readMan_j2 en.toInt (gT fw) (gT ft) r1.toInt r7.toInt z33.toInt z53.toInt y54.toInt y55.toInt) ∧ Rg z53 (-1) 9 ∧ Rg y54 0 400 ∧ Rg y55 0 400 ∧ va_P D vwCl [(aw, kcI cI 2179 fw), (h, oX11 th aw ai ab ac hi re aP ta y54 en y55 de fa a5 sp av an ak ne aW aC ag aT aN aF), (aP, .inl (cB, 400, .inl ft))] H ∧ va_D A [(aw, kcI cI 2179 fw), (h, oX11 th aw ai ab ac hi re aP ta y54 en y55 de fa a5 sp av an ak ne aW aC ag aT aN aF), (aP, .inl (cB, 400, .inl ft))] ∧ va_S A s.heap H locs ∧ lv_has ls 6 [(3, .int z33), (2, .int r7), (1, .int r1), (0, .ref h)]) (fun u H locs ls hI => ?_) (fun hJ56 => ?_)
      · skip
        clear hP hD hS hl
        obtain ⟨z53, y54, y55⟩ := u
        obtain ⟨hF2, hz53, hy54, hy55, hP, hD, hS, hl⟩ := hI
        have hP : va_P D vwCl [(aw, kcI cI 2179 fw), (h, oX11 th aw ai ab ac hi re aP ta y54 en y55 de fa a5 sp av an ak ne aW aC ag aT aN aF), (aP, .inl (cB, 400, .inl ft))] H := hP
        have hD : va_D A [(aw, kcI cI 2179 fw), (h, oX11 th aw ai ab ac hi re aP ta y54 en y55 de fa a5 sp av an ak ne aW aC ag aT aN aF), (aP, .inl (cB, 400, .inl ft))] := hD
        have hl : lv_has ls 6 [(3, .int z33), (2, .int r7), (1, .int r1), (0, .ref h)] := hl
        show W _ _ _ _ _ _ _ _ _ _ _ _ _ _ _ (F0 m 56 ls [.int z53])
        refine lv_istore (lv' := [(4, .int z53), (3, .int z33), (2, .int r7), (1, .int r1), (0, .ref h)]) hx hb dX11_readMan_56 hl (by decide) rfl (fun ls hl => ?_)
        refine lv_iload hx hb dX11_readMan_58 (lv_at hl 0 rfl) ?_
        refine lv_if_ge (tgt := 65) hx hb dX11_readMan_60 (by decide) (fun c56 => ?_) (fun c56 => ?_)
        · skip
          have k57 : Rg z53 0 9 := rg_e2 (leI c56) (rg_lit (n := 0) (by decide)) hz53 (by decide)
          refine lv_aload_n hx hb dX11_readMan_65 rfl (lv_at hl 4 rfl) ?_
          refine kcallv (wc := [(h, oX11 th aw ai ab ac hi re aP ta y54 en y55 de fa a5 sp av an ak ne aW aC ag aT aN aF), (aP, .inl (cB, 400, .inl ft))]) (wr := [(aw, kcI cI 2179 fw)]) hP hD hS hA [1, 2] [0] rfl rfl (by decide) (by decide) (by decide) (fun hPc hDc hFc => va_runV (As := []) (rest := []) ⟨hx, hb, hml, hown, hts⟩ (r_letters l D cI cJ cB cC h th aw ai ab ac hi re aP ta y54 en y55 de fa a5 sp av an ak ne aW aC ag aT aN aF ft H.size hy54 H_en) (cwV 0 hts gX11_readMan_X11_letters rfl rfl rfl ⟨rfl, hdX11_letters⟩ ⟨Nat.le_of_ble_eq_true rfl, Nat.le_of_ble_eq_true rfl⟩) ⟨kBlind, va_recv hK hPc (ci := 10) (q0 := 0) rfl rfl, fun U hU hW => ⟨rfl, by rw [hU], hN.warm hW, hE.pass hS hFc hW hU, by rw [hU]; exact hPc, va_K.moved hW.alike hK, hDc⟩⟩ rfl rfl hl.1 rfl (lv_room (Nat.le_of_ble_eq_true rfl)) dX11_readMan_66 ⟨Nat.le_of_ble_eq_true rfl, Nat.le_of_ble_eq_true rfl⟩) (fun u H locs hw hP hD hS => ?_)
          obtain ⟨x58, x59⟩ := u
          have hP : va_P D vwCl [(aw, kcI cI 2179 fw), (h, oX11 th aw ai ab ac hi re aP ta x58 en x59 de fa a5 sp av an ak ne aW aC ag aT aN aF), (aP, .inl (cB, 400, .inl ft))] H := hP
          have hD : va_D A [(aw, kcI cI 2179 fw), (h, oX11 th aw ai ab ac hi re aP ta x58 en x59 de fa a5 sp av an ak ne aW aC ag aT aN aF), (aP, .inl (cB, 400, .inl ft))] := hD
          obtain ⟨k60, k61, k62, k63, k64⟩ := hw
          refine lv_aload_n hx hb dX11_readMan_69 rfl (lv_at hl 4 rfl) ?_
          obtain ⟨q65, q66, hR67, hT68⟩ := kTx_4 hE.2.2
          refine va_ldcS hx hb hown hR67 dX11_readMan_70 ?_
          refine kpurei (wc := [(h, oX11 th aw ai ab ac hi re aP ta x58 en x59 de fa a5 sp av an ak ne aW aC ag aT aN aF), (aP, .inl (cB, 400, .inl ft))]) hP hD hS hA [1, 2] rfl (by decide) (fun hPc hDc hFc => va_runV (As := [.ref q65]) (rest := []) ⟨hx, hb, hml, hown, hts⟩ (r_isWord l D cI cJ cB cC h th aw ai ab ac hi re aP ta x58 en x59 de fa a5 sp av an ak ne aW aC ag aT aN aF ft q65 kSb4 q66 H.size k60 H_en k61 kSb4_le) (cwV 1 hts gX11_readMan_X11_isWord rfl rfl rfl ⟨rfl, hdX11_isWord⟩ ⟨Nat.le_of_ble_eq_true rfl, Nat.le_of_ble_eq_true rfl⟩) ⟨kBlindT, va_recv hK hPc (ci := 10) (q0 := 0) rfl rfl, fun U hU hW => ⟨rfl, by rw [hU], hN.warm hW, hE.pass hS hFc hW hU, hT68.pass hS hFc hW hU, by rw [hU]; exact hPc, va_K.moved hW.alike hK, hDc⟩⟩ rfl rfl hl.1 rfl (lv_room (Nat.le_of_ble_eq_true rfl)) dX11_readMan_72 ⟨Nat.le_of_ble_eq_true rfl, Nat.le_of_ble_eq_true rfl⟩) (fun r69 u H locs hw hP hS => ?_)
          obtain ⟨k70, k71, k72⟩ := hw
          refine k_join (hd := 86) (cells2 := 0) (slots2 := 0) (fun (u : Int32 × Int32 × Int32) => match u with | (z86, y87, y88) => [.int z86]) (fun (u : Int32 × Int32 × Int32) (H : Heap) (locs : List Loc) (ls : Array Slot) => match u with | (z86, y87, y88) => (F_r_readMan po.toInt en.toInt be.toInt (gT fw) (gT ft) = F_r_readMan_j3 (gT fw) r1.toInt r7.toInt z33.toInt z53.toInt z86.toInt y87.toInt y88.toInt) ∧ Rg z86 (-1) 2 ∧ Rg y87 0 400 ∧ Rg y88 0 400 ∧ va_P D vwCl [(aw, kcI cI 2179 fw), (h, oX11 th aw ai ab ac hi re aP ta y87 en y88 de fa a5 sp av an ak ne aW aC ag aT aN aF), (aP, .inl (cB, 400, .inl ft))] H ∧ va_D A [(aw, kcI cI 2179 fw), (h, oX11 th aw ai ab ac hi re aP ta y87 en y88 de fa a5 sp av an ak ne aW aC ag aT aN aF), (aP, .inl (cB, 400, .inl ft))] ∧ va_S A s.heap H locs ∧ lv_has ls 6 [(4, .int z53), (3, .int z33), (2, .int r7), (1, .int r1), (0, .ref h)]) (fun u H locs ls hI => ?_) (fun hJ86 => ?_)
          · skip
            clear hP hD hS hl
            obtain ⟨z86, y87, y88⟩ := u
            obtain ⟨hF3, hz86, hy87, hy88, hP, hD, hS, hl⟩ := hI
            have hP : va_P D vwCl [(aw, kcI cI 2179 fw), (h, oX11 th aw ai ab ac hi re aP ta y87 en y88 de fa a5 sp av an ak ne aW aC ag aT aN aF), (aP, .inl (cB, 400, .inl ft))] H := hP
            have hD : va_D A [(aw, kcI cI 2179 fw), (h, oX11 th aw ai ab ac hi re aP ta y87 en y88 de fa a5 sp av an ak ne aW aC ag aT aN aF), (aP, .inl (cB, 400, .inl ft))] := hD
            have hl : lv_has ls 6 [(4, .int z53), (3, .int z33), (2, .int r7), (1, .int r1), (0, .ref h)] := hl
            show W _ _ _ _ _ _ _ _ _ _ _ _ _ _ _ (F0 m 86 ls [.int z86])
            refine lv_istore (lv' := [(5, .int z86), (4, .int z53), (3, .int z33), (2, .int r7), (1, .int r1), (0, .ref h)]) hx hb dX11_readMan_86 hl (by decide) rfl (fun ls hl => ?_)
            refine lv_iload hx hb dX11_readMan_88 (lv_at hl 0 rfl) ?_
            refine lv_if_ge (tgt := 95) hx hb dX11_readMan_90 (by decide) (fun c89 => ?_) (fun c89 => ?_)
            · skip
              have k90 : Rg z86 0 2 := rg_e2 (leI c89) (rg_lit (n := 0) (by decide)) hz86 (by decide)
              refine lv_aload_n hx hb dX11_readMan_95 rfl (lv_at hl 5 rfl) ?_
              refine lv_iload_n hx hb dX11_readMan_96 rfl (lv_at hl 4 rfl) ?_
              refine lv_iconst (v := 0) hx hb dX11_readMan_97 (by decide) ?_
              refine lv_iload_n hx hb dX11_readMan_98 rfl (lv_at hl 3 rfl) ?_
              refine kcallv (wc := [(h, oX11 th aw ai ab ac hi re aP ta y87 en y88 de fa a5 sp av an ak ne aW aC ag aT aN aF), (aw, kcI cI 2179 fw)]) (wr := [(aP, .inl (cB, 400, .inl ft))]) hP hD hS hA [1, 0] [2] rfl rfl (by decide) (by decide) (by decide) (fun hPc hDc hFc => va_runV (As := [.int r1, .int 0, .int r7]) (rest := []) ⟨hx, hb, hml, hown, hts⟩ (r_setsMan0k l D cI cJ cB cC h th aw ai ab ac hi re aP ta y87 en y88 de fa a5 sp av an ak ne aW aC ag aT aN aF fw r1 r7 H.size k6 H_fw_W H_fw_B H_fw_L) (cwV 3 hts gX11_readMan_X11_setsMan rfl rfl rfl ⟨rfl, hdX11_setsMan⟩ ⟨Nat.le_of_ble_eq_true rfl, Nat.le_of_ble_eq_true rfl⟩) ⟨kBlind, va_recv hK hPc (ci := 10) (q0 := 0) rfl rfl, fun U hU hW => ⟨rfl, by rw [hU], hN.warm hW, hE.pass hS hFc hW hU, by rw [hU]; exact hPc, va_K.moved hW.alike hK, hDc⟩⟩ rfl rfl hl.1 rfl (lv_room (Nat.le_of_ble_eq_true rfl)) dX11_readMan_99 ⟨Nat.le_of_ble_eq_true rfl, Nat.le_of_ble_eq_true rfl⟩) (fun u H locs hw hP hD hS => ?_)
              obtain ⟨g91, rfl⟩ : ∃ z, z = u := ⟨_, rfl⟩
              have hP : va_P D vwCl [(aP, .inl (cB, 400, .inl ft)), (h, oX11 th aw ai ab ac hi re aP ta y87 en y88 de fa a5 sp av an ak ne aW aC ag aT aN aF), (aw, kcI cI 2179 g91)] H := hP
              have hD : va_D A [(aP, .inl (cB, 400, .inl ft)), (h, oX11 th aw ai ab ac hi re aP ta y87 en y88 de fa a5 sp av an ak ne aW aC ag aT aN aF), (aw, kcI cI 2179 g91)] := hD
              obtain ⟨k92, k93, k94, k95, k96⟩ := hw
              refine lv_aload_n hx hb dX11_readMan_102 rfl (lv_at hl 5 rfl) ?_
              refine lv_iload_n hx hb dX11_readMan_103 rfl (lv_at hl 4 rfl) ?_
              refine lv_iconst (v := 1) hx hb dX11_readMan_104 (by decide) ?_
              refine lv_iload_n hx hb dX11_readMan_105 rfl (lv_at hl 2 rfl) ?_
              refine kcallv (wc := [(h, oX11 th aw ai ab ac hi re aP ta y87 en y88 de fa a5 sp av an ak ne aW aC ag aT aN aF), (aw, kcI cI 2179 g91)]) (wr := [(aP, .inl (cB, 400, .inl ft))]) hP hD hS hA [1, 2] [0] rfl rfl (by decide) (by decide) (by decide) (fun hPc hDc hFc => va_runV (As := [.int r1, .int 1, .int z33]) (rest := []) ⟨hx, hb, hml, hown, hts⟩ (r_setsMan1k l D cI cJ cB cC h th aw ai ab ac hi re aP ta y87 en y88 de fa a5 sp av an ak ne aW aC ag aT aN aF g91 r1 z33 H.size k6 k94 k92 k93) (cwV 3 hts gX11_readMan_X11_setsMan rfl rfl rfl ⟨rfl, hdX11_setsMan⟩ ⟨Nat.le_of_ble_eq_true rfl, Nat.le_of_ble_eq_true rfl⟩) ⟨kBlind, va_recv hK hPc (ci := 10) (q0 := 0) rfl rfl, fun U hU hW => ⟨rfl, by rw [hU], hN.warm hW, hE.pass hS hFc hW hU, by rw [hU]; exact hPc, va_K.moved hW.alike hK, hDc⟩⟩ rfl rfl hl.1 rfl (lv_room (Nat.le_of_ble_eq_true rfl)) dX11_readMan_106 ⟨Nat.le_of_ble_eq_true rfl, Nat.le_of_ble_eq_true rfl⟩) (fun u H locs hw hP hD hS => ?_)
              obtain ⟨g97, rfl⟩ : ∃ z, z = u := ⟨_, rfl⟩
              have hP : va_P D vwCl [(aP, .inl (cB, 400, .inl ft)), (h, oX11 th aw ai ab ac hi re aP ta y87 en y88 de fa a5 sp av an ak ne aW aC ag aT aN aF), (aw, kcI cI 2179 g97)] H := hP
              have hD : va_D A [(aP, .inl (cB, 400, .inl ft)), (h, oX11 th aw ai ab ac hi re aP ta y87 en y88 de fa a5 sp av an ak ne aW aC ag aT aN aF), (aw, kcI cI 2179 g97)] := hD
              obtain ⟨k98, k99, k100, k101, k102⟩ := hw
              refine lv_aload_n hx hb dX11_readMan_109 rfl (lv_at hl 5 rfl) ?_
              refine lv_iload_n hx hb dX11_readMan_110 rfl (lv_at hl 4 rfl) ?_
              refine lv_iconst (v := 2) hx hb dX11_readMan_111 (by decide) ?_
              refine lv_iload hx hb dX11_readMan_112 (lv_at hl 1 rfl) ?_
              refine kcallv (wc := [(h, oX11 th aw ai ab ac hi re aP ta y87 en y88 de fa a5 sp av an ak ne aW aC ag aT aN aF), (aw, kcI cI 2179 g97)]) (wr := [(aP, .inl (cB, 400, .inl ft))]) hP hD hS hA [1, 2] [0] rfl rfl (by decide) (by decide) (by decide) (fun hPc hDc hFc => va_runV (As := [.int r1, .int 2, .int z53]) (rest := []) ⟨hx, hb, hml, hown, hts⟩ (r_setsMan2k l D cI cJ cB cC h th aw ai ab ac hi re aP ta y87 en y88 de fa a5 sp av an ak ne aW aC ag aT aN aF g97 r1 z53 H.size k6 k57 k100 k98 k99) (cwV 3 hts gX11_readMan_X11_setsMan rfl rfl rfl ⟨rfl, hdX11_setsMan⟩ ⟨Nat.le_of_ble_eq_true rfl, Nat.le_of_ble_eq_true rfl⟩) ⟨kBlind, va_recv hK hPc (ci := 10) (q0 := 0) rfl rfl, fun U hU hW => ⟨rfl, by rw [hU], hN.warm hW, hE.pass hS hFc hW hU, by rw [hU]; exact hPc, va_K.moved hW.alike hK, hDc⟩⟩ rfl rfl hl.1 rfl (lv_room (Nat.le_of_ble_eq_true rfl)) dX11_readMan_114 ⟨Nat.le_of_ble_eq_true rfl, Nat.le_of_ble_eq_true rfl⟩) (fun u H locs hw hP hD hS => ?_)
              obtain ⟨g103, rfl⟩ : ∃ z, z = u := ⟨_, rfl⟩
              have hP : va_P D vwCl [(aP, .inl (cB, 400, .inl ft)), (h, oX11 th aw ai ab ac hi re aP ta y87 en y88 de fa a5 sp av an ak ne aW aC ag aT aN aF), (aw, kcI cI 2179 g103)] H := hP
              have hD : va_D A [(aP, .inl (cB, 400, .inl ft)), (h, oX11 th aw ai ab ac hi re aP ta y87 en y88 de fa a5 sp av an ak ne aW aC ag aT aN aF), (aw, kcI cI 2179 g103)] := hD
              obtain ⟨k104, k105, k106, k107, k108⟩ := hw
              refine lv_aload_n hx hb dX11_readMan_117 rfl (lv_at hl 5 rfl) ?_
              refine lv_iload_n hx hb dX11_readMan_118 rfl (lv_at hl 4 rfl) ?_
              refine lv_iconst (v := 3) hx hb dX11_readMan_119 (by decide) ?_
              refine lv_iload hx hb dX11_readMan_120 (lv_at hl 0 rfl) ?_
              refine kcallv (wc := [(h, oX11 th aw ai ab ac hi re aP ta y87 en y88 de fa a5 sp av an ak ne aW aC ag aT aN aF), (aw, kcI cI 2179 g103)]) (wr := [(aP, .inl (cB, 400, .inl ft))]) hP hD hS hA [1, 2] [0] rfl rfl (by decide) (by decide) (by decide) (fun hPc hDc hFc => va_runV (As := [.int r1, .int 3, .int z86]) (rest := []) ⟨hx, hb, hml, hown, hts⟩ (r_setsMan3k l D cI cJ cB cC h th aw ai ab ac hi re aP ta y87 en y88 de fa a5 sp av an ak ne aW aC ag aT aN aF g103 r1 z86 H.size k6 k106 k104 k105) (cwV 3 hts gX11_readMan_X11_setsMan rfl rfl rfl ⟨rfl, hdX11_setsMan⟩ ⟨Nat.le_of_ble_eq_true rfl, Nat.le_of_ble_eq_true rfl⟩) ⟨kBlind, va_recv hK hPc (ci := 10) (q0 := 0) rfl rfl, fun U hU hW => ⟨rfl, by rw [hU], hN.warm hW, hE.pass hS hFc hW hU, by rw [hU]; exact hPc, va_K.moved hW.alike hK, hDc⟩⟩ rfl rfl hl.1 rfl (lv_room (Nat.le_of_ble_eq_true rfl)) dX11_readMan_122 ⟨Nat.le_of_ble_eq_true rfl, Nat.le_of_ble_eq_true rfl⟩) (fun u H locs hw hP hD hS => ?_)
              obtain ⟨g109, rfl⟩ : ∃ z, z = u := ⟨_, rfl⟩
              have hP : va_P D vwCl [(aP, .inl (cB, 400, .inl ft)), (h, oX11 th aw ai ab ac hi re aP ta y87 en y88 de fa a5 sp av an ak ne aW aC ag aT aN aF), (aw, kcI cI 2179 g109)] H := hP
              have hD : va_D A [(aP, .inl (cB, 400, .inl ft)), (h, oX11 th aw ai ab ac hi re aP ta y87 en y88 de fa a5 sp av an ak ne aW aC ag aT aN aF), (aw, kcI cI 2179 g109)] := hD
              obtain ⟨k110, k111, k112, k113, k114⟩ := hw
              refine lv_aload_n hx hb dX11_readMan_125 rfl (lv_at hl 5 rfl) ?_
              refine lv_iload_n hx hb dX11_readMan_126 rfl (lv_at hl 4 rfl) ?_
              refine lv_iconst (v := 4) hx hb dX11_readMan_127 (by decide) ?_
              refine lv_iconst (v := (-1)) hx hb dX11_readMan_128 (by decide) ?_
              refine kcallv (wc := [(h, oX11 th aw ai ab ac hi re aP ta y87 en y88 de fa a5 sp av an ak ne aW aC ag aT aN aF), (aw, kcI cI 2179 g109)]) (wr := [(aP, .inl (cB, 400, .inl ft))]) hP hD hS hA [1, 2] [0] rfl rfl (by decide) (by decide) (by decide) (fun hPc hDc hFc => va_runV (As := [.int r1, .int 4, .int (-1)]) (rest := []) ⟨hx, hb, hml, hown, hts⟩ (r_setsMan4k l D cI cJ cB cC h th aw ai ab ac hi re aP ta y87 en y88 de fa a5 sp av an ak ne aW aC ag aT aN aF g109 r1 (-1) H.size k6 (rg_w (rg_lit (n := -1) (by decide)) (by decide)) k112 k110 k111) (cwV 3 hts gX11_readMan_X11_setsMan rfl rfl rfl ⟨rfl, hdX11_setsMan⟩ ⟨Nat.le_of_ble_eq_true rfl, Nat.le_of_ble_eq_true rfl⟩) ⟨kBlind, va_recv hK hPc (ci := 10) (q0 := 0) rfl rfl, fun U hU hW => ⟨rfl, by rw [hU], hN.warm hW, hE.pass hS hFc hW hU, by rw [hU]; exact hPc, va_K.moved hW.alike hK, hDc⟩⟩ rfl rfl hl.1 rfl (lv_room (Nat.le_of_ble_eq_true rfl)) dX11_readMan_129 ⟨Nat.le_of_ble_eq_true rfl, Nat.le_of_ble_eq_true rfl⟩) (fun u H locs hw hP hD hS => ?_)
              obtain ⟨g115, rfl⟩ : ∃ z, z = u := ⟨_, rfl⟩
              have hP : va_P D vwCl [(aP, .inl (cB, 400, .inl ft)), (h, oX11 th aw ai ab ac hi re aP ta y87 en y88 de fa a5 sp av an ak ne aW aC ag aT aN aF), (aw, kcI cI 2179 g115)] H := hP
              have hD : va_D A [(aP, .inl (cB, 400, .inl ft)), (h, oX11 th aw ai ab ac hi re aP ta y87 en y88 de fa a5 sp av an ak ne aW aC ag aT aN aF), (aw, kcI cI 2179 g115)] := hD
              obtain ⟨k116, k117, k118, k119, k120⟩ := hw
              refine lv_aload_n hx hb dX11_readMan_132 rfl (lv_at hl 5 rfl) ?_
              refine va_get (D := D) (ci := 10) (v := .ref aw) (C := RX11) (T := TX11) (N := 26) hx hb hts iG_X11 hown hK hP 1 rfl rfl 1 (by decide) (hts _ w5_3) (fun _ h9 => h9) rfl dX11_readMan_133 ?_
              refine lv_iconst (v := 0) hx hb dX11_readMan_136 (by decide) ?_
              refine lv_dup2_11 hx hb dX11_readMan_137 rfl rfl ?_
              refine va_iald hx hb hK hP 2 0 rfl rfl (rg_in (rg_lit (n := 0) (by decide)) (by decide)) dX11_readMan_138 ?_
              refine lv_topi (fun x121 ex121 => ?_)
              have k122 : Rg x121 0 9 := (by have q1 : x121 = r1 := (by rw [ex121]; exact ((((k119.trans k113).trans k107).trans k101).trans k95).trans k2.symm); rw [q1]; exact k6)
              refine lv_iconst (v := 1) hx hb dX11_readMan_139 (by decide) ?_
              refine lv_iadd hx hb dX11_readMan_140 ?_
              refine lv_topi (fun x123 ex123 => ?_)
              have k124 : Rg x123 1 10 := rg_add ex123 k122 (rg_lit (n := 1) (by decide)) (by decide)
              refine va_iast hx hb hK hP hD hS 2 0 rfl rfl (rg_in (rg_lit (n := 0) (by decide)) (by decide)) dX11_readMan_141 (fun H locs hP hD hS => ?_)
              have hP : va_P D vwCl [(aP, .inl (cB, 400, .inl ft)), (h, oX11 th aw ai ab ac hi re aP ta y87 en y88 de fa a5 sp av an ak ne aW aC ag aT aN aF), (aw, kcI cI 2179 (upd g115 (0 : Int32).toNatClampNeg x123))] H := hP
              have hD : va_D A [(aP, .inl (cB, 400, .inl ft)), (h, oX11 th aw ai ab ac hi re aP ta y87 en y88 de fa a5 sp av an ak ne aW aC ag aT aN aF), (aw, kcI cI 2179 (upd g115 (0 : Int32).toNatClampNeg x123))] := hD
              have k126 : wB (upd g115 (0 : Int32).toNatClampNeg x123) := wB_lo k116 k118 (rg_lit (n := 0) (by decide)) (by decide)
              have k127 : wL (upd g115 (0 : Int32).toNatClampNeg x123) := wL_out k117 (rg_lit (n := 0) (by decide)) (by decide)
              have k128 : wW (upd g115 (0 : Int32).toNatClampNeg x123) := wW_w0 k118 (rg_w k124 (by decide))
              generalize hg125 : (upd g115 (0 : Int32).toNatClampNeg x123) = g125 at hP hD k126 k127 k128
              refine lv_iconst (v := 1) hx hb dX11_readMan_142 (by decide) ?_
              have hP9 := hP.sub (ws' := [(h, oX11 th aw ai ab ac hi re aP ta y87 en y88 de fa a5 sp av an ak ne aW aC ag aT aN aF), (aw, kcI cI 2179 g125), (aP, .inl (cB, 400, .inl ft))]) [1, 2, 0] rfl
              have hD9 := hD.sub (ws' := [(h, oX11 th aw ai ab ac hi re aP ta y87 en y88 de fa a5 sp av an ak ne aW aC ag aT aN aF), (aw, kcI cI 2179 g125), (aP, .inl (cB, 400, .inl ft))]) [1, 2, 0] (by decide) rfl
              exact W.zret (v := 1) hx hb hr (by decide) (fun t ht hW => ⟨⟨1, (y87, y88, g125), rfl, ⟨hy87, k126, k127, k128, (hF3.trans (kif_t (leI c89) (kLet_eq (k96).symm (kLet_eq (k102).symm (kLet_eq (k108).symm (kLet_eq (k114).symm (kLet_eq (k120).symm (kLet_eq (ke_ld ex121) (kLet_eq (ti_add ex123 k122 (rg_lit (n := 1) (by decide)) (by decide) rfl rfl) (kLet_eq (ke_st hg125) rfl)))))))))), (Or.inr rfl)⟩, by rw [ht]; exact hP9, va_K.moved hW.alike hK, hD9⟩, hS.F ht⟩) hS.2.2 dX11_readMan_143
            · skip
              have k129 : Rg z86 (-1) (-1) := rg_l1 (nleI c89) hz86 (rg_lit (n := 0) (by decide)) (by decide)
              refine lv_iconst (v := 0) hx hb dX11_readMan_93 (by decide) ?_
              have hP9 := hP.sub (ws' := [(h, oX11 th aw ai ab ac hi re aP ta y87 en y88 de fa a5 sp av an ak ne aW aC ag aT aN aF), (aw, kcI cI 2179 fw), (aP, .inl (cB, 400, .inl ft))]) [1, 0, 2] rfl
              have hD9 := hD.sub (ws' := [(h, oX11 th aw ai ab ac hi re aP ta y87 en y88 de fa a5 sp av an ak ne aW aC ag aT aN aF), (aw, kcI cI 2179 fw), (aP, .inl (cB, 400, .inl ft))]) [1, 0, 2] (by decide) rfl
              exact W.zret (v := 0) hx hb hr (by decide) (fun t ht hW => ⟨⟨0, (y87, y88, fw), rfl, ⟨hy87, H_fw_B, H_fw_L, H_fw_W, (hF3.trans (kif_f (xF_le c89) rfl)), (Or.inl rfl)⟩, by rw [ht]; exact hP9, va_K.moved hW.alike hK, hD9⟩, hS.F ht⟩) hS.2.2 dX11_readMan_94
          refine lv_if_eq (tgt := 85) hx hb dX11_readMan_75 (by decide) (fun c130 => ?_) (fun c130 => ?_)
          · skip
            have k131 : Rg r69 0 0 := rg_q1 (eqI c130) k70 (rg_lit (n := 0) (by decide)) (by decide)
            refine lv_iconst (v := (-1)) hx hb dX11_readMan_85 (by decide) ?_
            exact hJ86 ((-1 : Int32), x58, x59) _ _ _ ⟨(hF2.trans (kif_t (leI c56) (kC_eq k64 (kLet_eq (k72).symm (kif_t (eqI c130) rfl))))), (rg_w (rg_lit (n := -1) (by decide)) (by decide)), k60, k61, hP.sub (ws' := [(aw, kcI cI 2179 fw), (h, oX11 th aw ai ab ac hi re aP ta x58 en x59 de fa a5 sp av an ak ne aW aC ag aT aN aF), (aP, .inl (cB, 400, .inl ft))]) [0, 1, 2] rfl, hD.sub (ws' := [(aw, kcI cI 2179 fw), (h, oX11 th aw ai ab ac hi re aP ta x58 en x59 de fa a5 sp av an ak ne aW aC ag aT aN aF), (aP, .inl (cB, 400, .inl ft))]) [0, 1, 2] (by decide) rfl, hS, lv_sub (l' := [(4, .int z53), (3, .int z33), (2, .int r7), (1, .int r1), (0, .ref h)]) hl [0, 1, 2, 3, 4] rfl⟩
          · skip
            have k132 : Rg r69 1 1 := rg_n1 (neI c130) k70 (rg_lit (n := 0) (by decide)) (by decide)
            refine lv_aload_n hx hb dX11_readMan_78 rfl (lv_at hl 4 rfl) ?_
            refine kcalli (wc := [(h, oX11 th aw ai ab ac hi re aP ta x58 en x59 de fa a5 sp av an ak ne aW aC ag aT aN aF), (aP, .inl (cB, 400, .inl ft))]) (wr := [(aw, kcI cI 2179 fw)]) hP hD hS hA [1, 2] [0] rfl rfl (by decide) (by decide) (by decide) (fun hPc hDc hFc => va_runV (As := []) (rest := []) ⟨hx, hb, hml, hown, hts⟩ (r_colour l D cI cJ cB cC h th aw ai ab ac hi re aP ta x58 en x59 de fa a5 sp av an ak ne aW aC ag aT aN aF ft H.size k60 H_en) (cwV 0 hts gX11_readMan_X11_colour rfl rfl rfl ⟨rfl, hdX11_colour⟩ ⟨Nat.le_of_ble_eq_true rfl, Nat.le_of_ble_eq_true rfl⟩) ⟨kBlind, va_recv hK hPc (ci := 10) (q0 := 0) rfl rfl, fun U hU hW => ⟨rfl, by rw [hU], hN.warm hW, hE.pass hS hFc hW hU, by rw [hU]; exact hPc, va_K.moved hW.alike hK, hDc⟩⟩ rfl rfl hl.1 rfl (lv_room (Nat.le_of_ble_eq_true rfl)) dX11_readMan_79 ⟨Nat.le_of_ble_eq_true rfl, Nat.le_of_ble_eq_true rfl⟩) (fun r133 u H locs hw hP hD hS => ?_)
            obtain ⟨x134, x135⟩ := u
            have hP : va_P D vwCl [(aw, kcI cI 2179 fw), (h, oX11 th aw ai ab ac hi re aP ta x134 en x135 de fa a5 sp av an ak ne aW aC ag aT aN aF), (aP, .inl (cB, 400, .inl ft))] H := hP
            have hD : va_D A [(aw, kcI cI 2179 fw), (h, oX11 th aw ai ab ac hi re aP ta x134 en x135 de fa a5 sp av an ak ne aW aC ag aT aN aF), (aP, .inl (cB, 400, .inl ft))] := hD
            obtain ⟨k136, k137, k138, k139⟩ := hw
            refine lv_goto (tgt := 86) hx hb dX11_readMan_82 (by decide) ?_
            exact hJ86 (r133, x134, x135) _ _ _ ⟨(hF2.trans (kif_t (leI c56) (kC_eq k64 (kLet_eq (k72).symm (kif_f (neI c130) (kC_eq k139 (kC_eq rfl rfl))))))), k138, k136, k137, hP.sub (ws' := [(aw, kcI cI 2179 fw), (h, oX11 th aw ai ab ac hi re aP ta x134 en x135 de fa a5 sp av an ak ne aW aC ag aT aN aF), (aP, .inl (cB, 400, .inl ft))]) [0, 1, 2] rfl, hD.sub (ws' := [(aw, kcI cI 2179 fw), (h, oX11 th aw ai ab ac hi re aP ta x134 en x135 de fa a5 sp av an ak ne aW aC ag aT aN aF), (aP, .inl (cB, 400, .inl ft))]) [0, 1, 2] (by decide) rfl, hS, lv_sub (l' := [(4, .int z53), (3, .int z33), (2, .int r7), (1, .int r1), (0, .ref h)]) hl [0, 1, 2, 3, 4] rfl⟩
        · skip
          have k140 : Rg z53 (-1) (-1) := rg_l1 (nleI c56) hz53 (rg_lit (n := 0) (by decide)) (by decide)
          refine lv_iconst (v := 0) hx hb dX11_readMan_63 (by decide) ?_
          have hP9 := hP.sub (ws' := [(h, oX11 th aw ai ab ac hi re aP ta y54 en y55 de fa a5 sp av an ak ne aW aC ag aT aN aF), (aw, kcI cI 2179 fw), (aP, .inl (cB, 400, .inl ft))]) [1, 0, 2] rfl
          have hD9 := hD.sub (ws' := [(h, oX11 th aw ai ab ac hi re aP ta y54 en y55 de fa a5 sp av an ak ne aW aC ag aT aN aF), (aw, kcI cI 2179 fw), (aP, .inl (cB, 400, .inl ft))]) [1, 0, 2] (by decide) rfl
          exact W.zret (v := 0) hx hb hr (by decide) (fun t ht hW => ⟨⟨0, (y54, y55, fw), rfl, ⟨hy54, H_fw_B, H_fw_L, H_fw_W, (hF2.trans (kif_f (xF_le c56) rfl)), (Or.inl rfl)⟩, by rw [ht]; exact hP9, va_K.moved hW.alike hK, hD9⟩, hS.F ht⟩) hS.2.2 dX11_readMan_64
      refine lv_if_ge (tgt := 47) hx hb dX11_readMan_40 (by decide) (fun c141 => ?_) (fun c141 => ?_)
      · skip
        have k142 : Rg z33 0 9 := rg_e2 (leI c141) (rg_lit (n := 0) (by decide)) hz33 (by decide)
        refine lv_aload_n hx hb dX11_readMan_47 rfl (lv_at hl 3 rfl) ?_
        obtain ⟨q143, q144, hR145, hT146⟩ := kTx_3 hE.2.2
        refine va_ldcS hx hb hown hR145 dX11_readMan_48 ?_
        refine lv_iconst (v := 0) hx hb dX11_readMan_50 (by decide) ?_
        refine lv_bipush (v := 9) hx hb dX11_readMan_51 (by decide) ?_
        refine kcalli (wc := [(h, oX11 th aw ai ab ac hi re aP ta y34 en y35 de fa a5 sp av an ak ne aW aC ag aT aN aF), (aP, .inl (cB, 400, .inl ft))]) (wr := [(aw, kcI cI 2179 fw)]) hP hD hS hA [1, 2] [0] rfl rfl (by decide) (by decide) (by decide) (fun hPc hDc hFc => va_runV (As := [.ref q143, .int 0, .int 9]) (rest := []) ⟨hx, hb, hml, hown, hts⟩ (r_after_9 l D cI cJ cB cC h th aw ai ab ac hi re aP ta y34 en y35 de fa a5 sp av an ak ne aW aC ag aT aN aF ft q143 kSb3 q144 H.size hy34 H_en kSb3_le) (cwV 3 hts gX11_readMan_X11_after rfl rfl rfl ⟨rfl, hdX11_after⟩ ⟨Nat.le_of_ble_eq_true rfl, Nat.le_of_ble_eq_true rfl⟩) ⟨kBlindT, va_recv hK hPc (ci := 10) (q0 := 0) rfl rfl, fun U hU hW => ⟨rfl, by rw [hU], hN.warm hW, hE.pass hS hFc hW hU, hT146.pass hS hFc hW hU, by rw [hU]; exact hPc, va_K.moved hW.alike hK, hDc⟩⟩ rfl rfl hl.1 rfl (lv_room (Nat.le_of_ble_eq_true rfl)) dX11_readMan_53 ⟨Nat.le_of_ble_eq_true rfl, Nat.le_of_ble_eq_true rfl⟩) (fun r147 u H locs hw hP hD hS => ?_)
        obtain ⟨x148, x149⟩ := u
        have hP : va_P D vwCl [(aw, kcI cI 2179 fw), (h, oX11 th aw ai ab ac hi re aP ta x148 en x149 de fa a5 sp av an ak ne aW aC ag aT aN aF), (aP, .inl (cB, 400, .inl ft))] H := hP
        have hD : va_D A [(aw, kcI cI 2179 fw), (h, oX11 th aw ai ab ac hi re aP ta x148 en x149 de fa a5 sp av an ak ne aW aC ag aT aN aF), (aP, .inl (cB, 400, .inl ft))] := hD
        obtain ⟨k150, k151, k152, k153⟩ := hw
        exact hJ56 (r147, x148, x149) _ _ _ ⟨(hF1.trans (kif_t (leI c141) (kC_eq k153 (kC_eq rfl rfl)))), k152, k150, k151, hP.sub (ws' := [(aw, kcI cI 2179 fw), (h, oX11 th aw ai ab ac hi re aP ta x148 en x149 de fa a5 sp av an ak ne aW aC ag aT aN aF), (aP, .inl (cB, 400, .inl ft))]) [0, 1, 2] rfl, hD.sub (ws' := [(aw, kcI cI 2179 fw), (h, oX11 th aw ai ab ac hi re aP ta x148 en x149 de fa a5 sp av an ak ne aW aC ag aT aN aF), (aP, .inl (cB, 400, .inl ft))]) [0, 1, 2] (by decide) rfl, hS, lv_sub (l' := [(3, .int z33), (2, .int r7), (1, .int r1), (0, .ref h)]) hl [0, 1, 2, 3] rfl⟩
      · skip
        have k154 : Rg z33 (-1) (-1) := rg_l1 (nleI c141) hz33 (rg_lit (n := 0) (by decide)) (by decide)
        refine lv_iconst (v := (-1)) hx hb dX11_readMan_43 (by decide) ?_
        refine lv_goto (tgt := 56) hx hb dX11_readMan_44 (by decide) ?_
        exact hJ56 ((-1 : Int32), y34, y35) _ _ _ ⟨(hF1.trans (kif_f (xF_le c141) rfl)), (rg_w (rg_lit (n := -1) (by decide)) (by decide)), hy34, hy35, hP.sub (ws' := [(aw, kcI cI 2179 fw), (h, oX11 th aw ai ab ac hi re aP ta y34 en y35 de fa a5 sp av an ak ne aW aC ag aT aN aF), (aP, .inl (cB, 400, .inl ft))]) [0, 1, 2] rfl, hD.sub (ws' := [(aw, kcI cI 2179 fw), (h, oX11 th aw ai ab ac hi re aP ta y34 en y35 de fa a5 sp av an ak ne aW aC ag aT aN aF), (aP, .inl (cB, 400, .inl ft))]) [0, 1, 2] (by decide) rfl, hS, lv_sub (l' := [(3, .int z33), (2, .int r7), (1, .int r1), (0, .ref h)]) hl [0, 1, 2, 3] rfl⟩
    refine lv_if_ge (tgt := 29) hx hb dX11_readMan_22 (by decide) (fun c155 => ?_) (fun c155 => ?_)
    · skip
      have k156 : Rg r7 0 99 := rg_e2 (leI c155) (rg_lit (n := 0) (by decide)) k12 (by decide)
      refine lv_aload_n hx hb dX11_readMan_29 rfl (lv_at hl 2 rfl) ?_
      obtain ⟨q157, q158, hR159, hT160⟩ := kTx_2 hE.2.2
      refine va_ldcS hx hb hown hR159 dX11_readMan_30 ?_
      refine lv_iconst (v := 0) hx hb dX11_readMan_32 (by decide) ?_
      refine lv_bipush (v := 9) hx hb dX11_readMan_33 (by decide) ?_
      refine kcalli (wc := [(h, oX11 th aw ai ab ac hi re aP ta x8 en x9 de fa a5 sp av an ak ne aW aC ag aT aN aF), (aP, .inl (cB, 400, .inl ft))]) (wr := [(aw, kcI cI 2179 fw)]) hP hD hS hA [1, 2] [0] rfl rfl (by decide) (by decide) (by decide) (fun hPc hDc hFc => va_runV (As := [.ref q157, .int 0, .int 9]) (rest := []) ⟨hx, hb, hml, hown, hts⟩ (r_after_9 l D cI cJ cB cC h th aw ai ab ac hi re aP ta x8 en x9 de fa a5 sp av an ak ne aW aC ag aT aN aF ft q157 kSb2 q158 H.size k10 H_en kSb2_le) (cwV 3 hts gX11_readMan_X11_after rfl rfl rfl ⟨rfl, hdX11_after⟩ ⟨Nat.le_of_ble_eq_true rfl, Nat.le_of_ble_eq_true rfl⟩) ⟨kBlindT, va_recv hK hPc (ci := 10) (q0 := 0) rfl rfl, fun U hU hW => ⟨rfl, by rw [hU], hN.warm hW, hE.pass hS hFc hW hU, hT160.pass hS hFc hW hU, by rw [hU]; exact hPc, va_K.moved hW.alike hK, hDc⟩⟩ rfl rfl hl.1 rfl (lv_room (Nat.le_of_ble_eq_true rfl)) dX11_readMan_35 ⟨Nat.le_of_ble_eq_true rfl, Nat.le_of_ble_eq_true rfl⟩) (fun r161 u H locs hw hP hD hS => ?_)
      obtain ⟨x162, x163⟩ := u
      have hP : va_P D vwCl [(aw, kcI cI 2179 fw), (h, oX11 th aw ai ab ac hi re aP ta x162 en x163 de fa a5 sp av an ak ne aW aC ag aT aN aF), (aP, .inl (cB, 400, .inl ft))] H := hP
      have hD : va_D A [(aw, kcI cI 2179 fw), (h, oX11 th aw ai ab ac hi re aP ta x162 en x163 de fa a5 sp av an ak ne aW aC ag aT aN aF), (aP, .inl (cB, 400, .inl ft))] := hD
      obtain ⟨k164, k165, k166, k167⟩ := hw
      exact hJ38 (r161, x162, x163) _ _ _ ⟨(kLet_eq (k4).symm (kif_f (neI c5) (kC_eq k15 (kC_eq rfl (kif_t (leI c155) (kC_eq k167 (kC_eq rfl rfl))))))), k166, k164, k165, hP.sub (ws' := [(aw, kcI cI 2179 fw), (h, oX11 th aw ai ab ac hi re aP ta x162 en x163 de fa a5 sp av an ak ne aW aC ag aT aN aF), (aP, .inl (cB, 400, .inl ft))]) [0, 1, 2] rfl, hD.sub (ws' := [(aw, kcI cI 2179 fw), (h, oX11 th aw ai ab ac hi re aP ta x162 en x163 de fa a5 sp av an ak ne aW aC ag aT aN aF), (aP, .inl (cB, 400, .inl ft))]) [0, 1, 2] (by decide) rfl, hS, lv_sub (l' := [(2, .int r7), (1, .int r1), (0, .ref h)]) hl [0, 1, 2] rfl⟩
    · skip
      have k168 : Rg r7 (-1) (-1) := rg_l1 (nleI c155) k12 (rg_lit (n := 0) (by decide)) (by decide)
      refine lv_iconst (v := (-1)) hx hb dX11_readMan_25 (by decide) ?_
      refine lv_goto (tgt := 38) hx hb dX11_readMan_26 (by decide) ?_
      exact hJ38 ((-1 : Int32), x8, x9) _ _ _ ⟨(kLet_eq (k4).symm (kif_f (neI c5) (kC_eq k15 (kC_eq rfl (kif_f (xF_le c155) rfl))))), (rg_w (rg_lit (n := -1) (by decide)) (by decide)), k10, k11, hP.sub (ws' := [(aw, kcI cI 2179 fw), (h, oX11 th aw ai ab ac hi re aP ta x8 en x9 de fa a5 sp av an ak ne aW aC ag aT aN aF), (aP, .inl (cB, 400, .inl ft))]) [0, 1, 2] rfl, hD.sub (ws' := [(aw, kcI cI 2179 fw), (h, oX11 th aw ai ab ac hi re aP ta x8 en x9 de fa a5 sp av an ak ne aW aC ag aT aN aF), (aP, .inl (cB, 400, .inl ft))]) [0, 1, 2] (by decide) rfl, hS, lv_sub (l' := [(2, .int r7), (1, .int r1), (0, .ref h)]) hl [0, 1, 2] rfl⟩
  · skip
    have k169 : Rg r1 10 10 := rg_q1 (eqI c5) k3 (rg_lit (n := 10) (by decide)) (by decide)
    refine lv_iconst (v := 0) hx hb dX11_readMan_11 (by decide) ?_
    have hP9 := hP.sub (ws' := [(h, oX11 th aw ai ab ac hi re aP ta po en be de fa a5 sp av an ak ne aW aC ag aT aN aF), (aw, kcI cI 2179 fw), (aP, .inl (cB, 400, .inl ft))]) [0, 1, 2] rfl
    have hD9 := hD.sub (ws' := [(h, oX11 th aw ai ab ac hi re aP ta po en be de fa a5 sp av an ak ne aW aC ag aT aN aF), (aw, kcI cI 2179 fw), (aP, .inl (cB, 400, .inl ft))]) [0, 1, 2] (by decide) rfl
    exact W.zret (v := 0) hx hb hr (by decide) (fun t ht hW => ⟨⟨0, (po, be, fw), rfl, ⟨H_po, H_fw_B, H_fw_L, H_fw_W, (kLet_eq (k4).symm (kif_t (eqI c5) rfl)), (Or.inl rfl)⟩, by rw [ht]; exact hP9, va_K.moved hW.alike hK, hD9⟩, hS.F ht⟩) hS.2.2 dX11_readMan_12

