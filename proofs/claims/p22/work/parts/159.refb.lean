set_option maxHeartbeats 4000000 in
set_option maxRecDepth 100000 in
/-- reference: sets -/
theorem r_sets4x (l : Launch) (D : va_G) (cI cJ cB cC : ClassId) (h : Nat) (th : Int32) (aw : Nat) (ai : Nat) (ab : Nat) (ac : Nat) (hi : Int32) (re : Int32) (aP : Nat) (ta : Int32) (po : Int32) (en : Int32) (be : Int32) (de : Int32) (fa : Int32) (a5 : Nat) (sp : Int32) (av : Nat) (an : Nat) (ak : Nat) (ne : Int32) (aW : Nat) (aC : Nat) (ag : Nat) (aT : Nat) (aN : Nat) (aF : Nat) (fw : Nat → Int32) (mm : Int32) (v : Int32) (sz : Nat) (H_mm : Rg mm 0 11) : Met l yX11_sets kwX11_sets ({ frames := 0, cells := 0, slots := 0, locals := 0 } : Room) (kPre D (kT cI cJ cB cC) sz [(h, oX11 th aw ai ab ac hi re aP ta po en be de fa a5 sp av an ak ne aW aC ag aT aN aF), (aw, kcI cI 2179 fw)] [.ref h, .int mm, .int 4, .int v]) (va_Qv (fun (_ : Unit) => True) (fun (_ : Unit) (t : State) => kB D (kT cI cJ cB cC) (va_A [(h, oX11 th aw ai ab ac hi re aP ta po en be de fa a5 sp av an ak ne aW aC ag aT aN aF), (aw, kcI cI 2179 fw)] sz) [(h, oX11 th aw ai ab ac hi re aP ta po en be de fa a5 sp av an ak ne aW aC ag aT aN aF), (aw, kcI cI 2179 (upd fw (65 + 7 * cN mm) v))] t) (va_A [(h, oX11 th aw ai ab ac hi re aP ta po en be de fa a5 sp av an ak ne aW aC ag aT aN aF), (aw, kcI cI 2179 fw)] sz)) 0 0 (va_A [(h, oX11 th aw ai ab ac hi re aP ta po en be de fa a5 sp av an ak ne aW aC ag aT aN aF), (aw, kcI cI 2179 fw)] sz) := by
  refine Met.ofW (cc := cX11_sets) (maxL := 4) (ret := none) (by decide) rfl ?_
  intro p e s m args below meth c s₁ B hml hv
  obtain ⟨rfl, hsz, hN, hE, hP, hK, hD0⟩ := hv
  have hx := B.exec
  have hb := B.bytes
  have hr := B.returns
  have hts := fun (w : Cond) (h : w ∈ kG) => atoms_spec (ws := kwX11_sets) B.pre w (List.mem_cons_of_mem _ h)
  have hown : s.vm.findClass RX11 = some m.cls := findClass_of_methodNamed B.named
  subst hsz
  have hD := hD0.self (sz := s.heap.size)
  generalize hAe : va_A [(h, oX11 th aw ai ab ac hi re aP ta po en be de fa a5 sp av an ak ne aW aC ag aT aN aF), (aw, kcI cI 2179 fw)] s.heap.size = A at hD hE ⊢
  have hA : ∀ q : Nat, s.heap.size ≤ q → A q := fun q h => by rw [← hAe]; exact Or.inr h
  have hl := lv_entry ([.ref h, .int mm, .int 4, .int v]) (n := 4) (Nat.le_of_ble_eq_true rfl)
  rw [lg_entry_eq]
  generalize (lg_sl ([.ref h, .int mm, .int 4, .int v]) ++ List.replicate (4 - (lg_sl ([.ref h, .int mm, .int 4, .int v])).length) Slot.unset).toArray = ls at hl ⊢
  have hl : lv_has ls 4 [(0, .ref h), (1, .int mm), (2, .int 4), (3, .int v)] := hl
  obtain ⟨H, hH0⟩ : ∃ H, H = s.heap := ⟨_, rfl⟩
  have hS : va_S A s.heap H [] := by rw [hH0]; exact va_S.rf
  have hP : va_P D vwCl [(h, oX11 th aw ai ab ac hi re aP ta po en be de fa a5 sp av an ak ne aW aC ag aT aN aF), (aw, kcI cI 2179 fw)] H := by rw [hH0]; exact hP
  refine kHeap hH0 ?_
  clear hH0
  refine lv_aload_n hx hb dX11_sets_0 rfl (lv_at hl 0 rfl) ?_
  refine va_get (D := D) (ci := 10) (v := .ref aw) (C := RX11) (T := TX11) (N := 26) hx hb hts iG_X11 hown hK hP 0 rfl rfl 1 (by decide) (hts _ w5_3) (fun _ h9 => h9) rfl dX11_sets_1 ?_
  refine lv_bipush (v := 61) hx hb dX11_sets_4 (by decide) ?_
  refine lv_bipush (v := 7) hx hb dX11_sets_6 (by decide) ?_
  refine lv_iload_n hx hb dX11_sets_8 rfl (lv_at hl 1 rfl) ?_
  refine lv_imul hx hb dX11_sets_9 ?_
  refine lv_topi (fun x1 ex1 => ?_)
  have tx1 : x1.toInt = 7 * mm.toInt := ti_mul ex1 (rg_lit (n := 7) (by decide)) H_mm (by decide) (by decide) rfl
  have k2 : Rg x1 0 77 := rg_mul ex1 (rg_lit (n := 7) (by decide)) H_mm (by decide)
  refine lv_iadd hx hb dX11_sets_10 ?_
  refine lv_topi (fun x3 ex3 => ?_)
  have tx3 : x3.toInt = 61 + x1.toInt := ti_add ex3 (rg_lit (n := 61) (by decide)) k2 (by decide) (by decide) rfl
  have k4 : Rg x3 61 138 := rg_add ex3 (rg_lit (n := 61) (by decide)) k2 (by decide)
  refine lv_iload_n hx hb dX11_sets_11 rfl (lv_at hl 2 rfl) ?_
  refine lv_iadd hx hb dX11_sets_12 ?_
  refine lv_topi (fun x5 ex5 => ?_)
  have tx5 : x5.toInt = x3.toInt + 4 := ti_add ex5 k4 (rg_lit (n := 4) (by decide)) (by decide) rfl (by decide)
  have k6 : Rg x5 65 142 := rg_add ex5 k4 (rg_lit (n := 4) (by decide)) (by decide)
  refine lv_iload_n hx hb dX11_sets_13 rfl (lv_at hl 3 rfl) ?_
  refine va_iast hx hb hK hP hD hS 1 0 rfl rfl (rg_in k6 (by decide)) dX11_sets_14 (fun H locs hP hD hS => ?_)
  have hP : va_P D vwCl [(h, oX11 th aw ai ab ac hi re aP ta po en be de fa a5 sp av an ak ne aW aC ag aT aN aF), (aw, kcI cI 2179 (upd fw x5.toNatClampNeg v))] H := hP
  have hD : va_D A [(h, oX11 th aw ai ab ac hi re aP ta po en be de fa a5 sp av an ak ne aW aC ag aT aN aF), (aw, kcI cI 2179 (upd fw x5.toNatClampNeg v))] := hD
  have k7 : x5.toNatClampNeg = 65 + 7 * cN mm := cl_of k6 (by decide) (by (try simp only [cN]); have q9 := H_mm; unfold Rg at *; omega)
  rw [k7] at hP hD
  have hP9 := hP.sub (ws' := [(h, oX11 th aw ai ab ac hi re aP ta po en be de fa a5 sp av an ak ne aW aC ag aT aN aF), (aw, kcI cI 2179 (upd fw (65 + 7 * cN mm) v))]) [0, 1] rfl
  have hD9 := hD.sub (ws' := [(h, oX11 th aw ai ab ac hi re aP ta po en be de fa a5 sp av an ak ne aW aC ag aT aN aF), (aw, kcI cI 2179 (upd fw (65 + 7 * cN mm) v))]) [0, 1] (by decide) rfl
  exact W.vret hx hb hr (fun t ht hW => ⟨⟨(), rfl, trivial, by rw [ht]; exact hP9, va_K.moved hW.alike hK, hD9⟩, hS.F ht⟩) hS.2.2 dX11_sets_15

def kwX11_buttons : List Cond := .code yX11_buttons cX11_buttons 4 none :: kG
theorem hdX11_buttons : yX11_buttons.cls ≠ "java/lang/invoke/MethodHandle" ∧ yX11_buttons.cls ≠ "java/lang/invoke/VarHandle" ∧ (parseMethodDescriptor yX11_buttons.desc).map (fun d => d.parameters.length) = some 2 := by decide +kernel
theorem gX11_buttons_X11_noShirt : GoodIn kG (wsV RX11 283 RX11 yX11_noShirt kwX11_noShirt) := gK w28_12 (gK w28_13 (gK w28_14 (gK w0_5 (gK w28_15 gGG))))
theorem gX11_buttons_X11_of : GoodIn kG (wsV RX11 156 RX11 yX11_of kwX11_of) := gK w21_9 (gK w21_10 (gK w21_11 (gK w0_5 (gK w21_12 gGG))))
theorem gX11_buttons_X11_remembers : GoodIn kG (wsV RX11 298 RX11 yX11_remembers kwX11_remembers) := gK w34_0 (gK w34_1 (gK w34_2 (gK w0_5 (gK w34_3 gGG))))
theorem gX11_buttons_X11_sets : GoodIn kG (wsV RX11 150 RX11 yX11_sets kwX11_sets) := gK w20_21 (gK w20_22 (gK w20_23 (gK w0_5 (gK w21_0 gGG))))
theorem gX11_buttons_X11_throwsIf : GoodIn kG (wsV RX11 258 RX11 yX11_throwsIf kwX11_throwsIf) := gK w23_6 (gK w23_7 (gK w23_8 (gK w0_5 (gK w23_9 gGG))))
theorem dX11_buttons_0 : decode cX11_buttons 0 = .ok (.aload_n 0, 1) := by decide +kernel
theorem dX11_buttons_1 : decode cX11_buttons 1 = .ok (.iconst 0, 1) := by decide +kernel
theorem dX11_buttons_2 : decode cX11_buttons 2 = .ok (.putfield 3, 3) := by decide +kernel
theorem dX11_buttons_5 : decode cX11_buttons 5 = .ok (.aload_n 0, 1) := by decide +kernel
theorem dX11_buttons_6 : decode cX11_buttons 6 = .ok (.aload_n 0, 1) := by decide +kernel
theorem dX11_buttons_7 : decode cX11_buttons 7 = .ok (.iload_n 1, 1) := by decide +kernel
theorem dX11_buttons_8 : decode cX11_buttons 8 = .ok (.invokevirtual 283, 3) := by decide +kernel
theorem dX11_buttons_11 : decode cX11_buttons 11 = .ok (.ifCond .ne 11, 3) := by decide +kernel
theorem dX11_buttons_14 : decode cX11_buttons 14 = .ok (.aload_n 0, 1) := by decide +kernel
theorem dX11_buttons_15 : decode cX11_buttons 15 = .ok (.iload_n 2, 1) := by decide +kernel
theorem dX11_buttons_16 : decode cX11_buttons 16 = .ok (.invokevirtual 283, 3) := by decide +kernel
theorem dX11_buttons_19 : decode cX11_buttons 19 = .ok (.ifCond .eq 7, 3) := by decide +kernel
theorem dX11_buttons_22 : decode cX11_buttons 22 = .ok (.iconst 1, 1) := by decide +kernel
theorem dX11_buttons_23 : decode cX11_buttons 23 = .ok (.goto 4, 3) := by decide +kernel
theorem dX11_buttons_26 : decode cX11_buttons 26 = .ok (.iconst 0, 1) := by decide +kernel
theorem dX11_buttons_27 : decode cX11_buttons 27 = .ok (.iconst 1, 1) := by decide +kernel
theorem dX11_buttons_28 : decode cX11_buttons 28 = .ok (.invokevirtual 258, 3) := by decide +kernel
theorem dX11_buttons_31 : decode cX11_buttons 31 = .ok (.ifCond .ne 21, 3) := by decide +kernel
theorem dX11_buttons_34 : decode cX11_buttons 34 = .ok (.aload_n 0, 1) := by decide +kernel
theorem dX11_buttons_35 : decode cX11_buttons 35 = .ok (.iload_n 1, 1) := by decide +kernel
theorem dX11_buttons_36 : decode cX11_buttons 36 = .ok (.iload_n 2, 1) := by decide +kernel
theorem dX11_buttons_37 : decode cX11_buttons 37 = .ok (.if_icmp .ne 7, 3) := by decide +kernel
theorem dX11_buttons_40 : decode cX11_buttons 40 = .ok (.iconst 1, 1) := by decide +kernel
theorem dX11_buttons_41 : decode cX11_buttons 41 = .ok (.goto 4, 3) := by decide +kernel
theorem dX11_buttons_44 : decode cX11_buttons 44 = .ok (.iconst 0, 1) := by decide +kernel
theorem dX11_buttons_45 : decode cX11_buttons 45 = .ok (.iconst 2, 1) := by decide +kernel
theorem dX11_buttons_46 : decode cX11_buttons 46 = .ok (.invokevirtual 258, 3) := by decide +kernel
theorem dX11_buttons_49 : decode cX11_buttons 49 = .ok (.ifCond .eq 4, 3) := by decide +kernel
theorem dX11_buttons_52 : decode cX11_buttons 52 = .ok (.return_, 1) := by decide +kernel
theorem dX11_buttons_53 : decode cX11_buttons 53 = .ok (.aload_n 0, 1) := by decide +kernel
theorem dX11_buttons_54 : decode cX11_buttons 54 = .ok (.invokevirtual 298, 3) := by decide +kernel
theorem dX11_buttons_57 : decode cX11_buttons 57 = .ok (.aload_n 0, 1) := by decide +kernel
theorem dX11_buttons_58 : decode cX11_buttons 58 = .ok (.iload_n 1, 1) := by decide +kernel
theorem dX11_buttons_59 : decode cX11_buttons 59 = .ok (.iconst 4, 1) := by decide +kernel
theorem dX11_buttons_60 : decode cX11_buttons 60 = .ok (.invokevirtual 156, 3) := by decide +kernel
theorem dX11_buttons_63 : decode cX11_buttons 63 = .ok (.istore_n 3, 1) := by decide +kernel
theorem dX11_buttons_64 : decode cX11_buttons 64 = .ok (.aload_n 0, 1) := by decide +kernel
theorem dX11_buttons_65 : decode cX11_buttons 65 = .ok (.iload_n 1, 1) := by decide +kernel
theorem dX11_buttons_66 : decode cX11_buttons 66 = .ok (.iconst 4, 1) := by decide +kernel
theorem dX11_buttons_67 : decode cX11_buttons 67 = .ok (.aload_n 0, 1) := by decide +kernel
theorem dX11_buttons_68 : decode cX11_buttons 68 = .ok (.iload_n 2, 1) := by decide +kernel
theorem dX11_buttons_69 : decode cX11_buttons 69 = .ok (.iconst 4, 1) := by decide +kernel
theorem dX11_buttons_70 : decode cX11_buttons 70 = .ok (.invokevirtual 156, 3) := by decide +kernel
theorem dX11_buttons_73 : decode cX11_buttons 73 = .ok (.invokevirtual 150, 3) := by decide +kernel
theorem dX11_buttons_76 : decode cX11_buttons 76 = .ok (.aload_n 0, 1) := by decide +kernel
theorem dX11_buttons_77 : decode cX11_buttons 77 = .ok (.iload_n 2, 1) := by decide +kernel
theorem dX11_buttons_78 : decode cX11_buttons 78 = .ok (.iconst 4, 1) := by decide +kernel
theorem dX11_buttons_79 : decode cX11_buttons 79 = .ok (.iload_n 3, 1) := by decide +kernel
theorem dX11_buttons_80 : decode cX11_buttons 80 = .ok (.invokevirtual 150, 3) := by decide +kernel
theorem dX11_buttons_83 : decode cX11_buttons 83 = .ok (.return_, 1) := by decide +kernel
set_option maxHeartbeats 4000000 in
set_option maxRecDepth 100000 in
/-- reference: buttons -/
theorem r_buttons (l : Launch) (D : va_G) (cI cJ cB cC : ClassId) (h : Nat) (th : Int32) (aw : Nat) (ai : Nat) (ab : Nat) (ac : Nat) (hi : Int32) (re : Int32) (aP : Nat) (ta : Int32) (po : Int32) (en : Int32) (be : Int32) (de : Int32) (fa : Int32) (a5 : Nat) (sp : Int32) (av : Nat) (an : Nat) (ak : Nat) (ne : Int32) (aW : Nat) (aC : Nat) (ag : Nat) (aT : Nat) (aN : Nat) (aF : Nat) (fw : Nat → Int32) (fc : Nat → Int32) (a1 : Int32) (b1 : Int32) (sz : Nat) (H_re : Rg re 0 12) (H_fw_W : wW fw) (H_fw_B : wB fw) (H_fw_L : wL fw) (H_fc_C : wC fc) : Met l yX11_buttons kwX11_buttons ({ frames := 2, cells := 0, slots := 0, locals := 43 } : Room) (kPre D (kT cI cJ cB cC) sz [(h, oX11 th aw ai ab ac hi re aP ta po en be de fa a5 sp av an ak ne aW aC ag aT aN aF), (aw, kcI cI 2179 fw), (ac, kcI cI 6060 fc)] [.ref h, .int a1, .int b1]) (va_Qv (fun (uu : Int32 × Int32 × (Nat → Int32) × (Nat → Int32)) => match uu with | (n0_, n1_, f2_, f3_) => Rg n1_ 0 12 ∧ wB f2_ ∧ wL f2_ ∧ wW f2_ ∧ wC f3_ ∧ F_r_buttons (re : Int32).toInt (gT fw) (gT fc) (a1 : Int32).toInt (b1 : Int32).toInt = ((n0_ : Int32).toInt, (n1_ : Int32).toInt, (gT f2_), (gT f3_))) (fun (uu : Int32 × Int32 × (Nat → Int32) × (Nat → Int32)) (t : State) => match uu with | (n0_, n1_, f2_, f3_) => kB D (kT cI cJ cB cC) (va_A [(h, oX11 th aw ai ab ac hi re aP ta po en be de fa a5 sp av an ak ne aW aC ag aT aN aF), (aw, kcI cI 2179 fw), (ac, kcI cI 6060 fc)] sz) [(h, oX11 n0_ aw ai ab ac hi n1_ aP ta po en be de fa a5 sp av an ak ne aW aC ag aT aN aF), (aw, kcI cI 2179 f2_), (ac, kcI cI 6060 f3_)] t) (va_A [(h, oX11 th aw ai ab ac hi re aP ta po en be de fa a5 sp av an ak ne aW aC ag aT aN aF), (aw, kcI cI 2179 fw), (ac, kcI cI 6060 fc)] sz)) 0 0 (va_A [(h, oX11 th aw ai ab ac hi re aP ta po en be de fa a5 sp av an ak ne aW aC ag aT aN aF), (aw, kcI cI 2179 fw), (ac, kcI cI 6060 fc)] sz) := by
  refine Met.ofW (cc := cX11_buttons) (maxL := 4) (ret := none) (by decide) rfl ?_
  intro p e s m args below meth c s₁ B hml hv
  obtain ⟨rfl, hsz, hN, hE, hP, hK, hD0⟩ := hv
  have hx := B.exec
  have hb := B.bytes
  have hr := B.returns
  have hts := fun (w : Cond) (h : w ∈ kG) => atoms_spec (ws := kwX11_buttons) B.pre w (List.mem_cons_of_mem _ h)
  have hown : s.vm.findClass RX11 = some m.cls := findClass_of_methodNamed B.named
  subst hsz
  have hD := hD0.self (sz := s.heap.size)
  generalize hAe : va_A [(h, oX11 th aw ai ab ac hi re aP ta po en be de fa a5 sp av an ak ne aW aC ag aT aN aF), (aw, kcI cI 2179 fw), (ac, kcI cI 6060 fc)] s.heap.size = A at hD hE ⊢
  have hA : ∀ q : Nat, s.heap.size ≤ q → A q := fun q h => by rw [← hAe]; exact Or.inr h
  have hl := lv_entry ([.ref h, .int a1, .int b1]) (n := 4) (Nat.le_of_ble_eq_true rfl)
  rw [lg_entry_eq]
  generalize (lg_sl ([.ref h, .int a1, .int b1]) ++ List.replicate (4 - (lg_sl ([.ref h, .int a1, .int b1])).length) Slot.unset).toArray = ls at hl ⊢
  have hl : lv_has ls 4 [(0, .ref h), (1, .int a1), (2, .int b1)] := hl
  obtain ⟨H, hH0⟩ : ∃ H, H = s.heap := ⟨_, rfl⟩
  have hS : va_S A s.heap H [] := by rw [hH0]; exact va_S.rf
  have hP : va_P D vwCl [(h, oX11 th aw ai ab ac hi re aP ta po en be de fa a5 sp av an ak ne aW aC ag aT aN aF), (aw, kcI cI 2179 fw), (ac, kcI cI 6060 fc)] H := by rw [hH0]; exact hP
  refine kHeap hH0 ?_
  clear hH0
  refine lv_aload_n hx hb dX11_buttons_0 rfl (lv_at hl 0 rfl) ?_
  refine lv_iconst (v := 0) hx hb dX11_buttons_1 (by decide) ?_
  refine va_put (D := D) (ci := 10) (v := .int 0) (ty := .int) (C := RX11) (T := TX11) (N := 26) hx hb hts iG_X11 tyX11 tyX11_ok nmX11 hown hK hP hD hS 0 rfl rfl 0 (by decide) (hts _ w6_8) (fun _ h9 => h9) rfl (by decide +kernel) rfl rfl (Nat.le_of_ble_eq_true rfl) dX11_buttons_2 (fun H locs hP hD hS => ?_)
  have hP : va_P D vwCl [(h, oX11 0 aw ai ab ac hi re aP ta po en be de fa a5 sp av an ak ne aW aC ag aT aN aF), (aw, kcI cI 2179 fw), (ac, kcI cI 6060 fc)] H := hP
  have hD : va_D A [(h, oX11 0 aw ai ab ac hi re aP ta po en be de fa a5 sp av an ak ne aW aC ag aT aN aF), (aw, kcI cI 2179 fw), (ac, kcI cI 6060 fc)] := hD
  refine lv_aload_n hx hb dX11_buttons_5 rfl (lv_at hl 0 rfl) ?_
  refine lv_aload_n hx hb dX11_buttons_6 rfl (lv_at hl 0 rfl) ?_
  refine lv_iload_n hx hb dX11_buttons_7 rfl (lv_at hl 1 rfl) ?_
  refine kpurei (wc := [(h, oX11 0 aw ai ab ac hi re aP ta po en be de fa a5 sp av an ak ne aW aC ag aT aN aF), (aw, kcI cI 2179 fw)]) hP hD hS hA [0, 1] rfl (by decide) (fun hPc hDc hFc => va_runV (As := [.int a1]) (rest := [.ref h]) ⟨hx, hb, hml, hown, hts⟩ (r_noShirt l D cI cJ cB cC h 0 aw ai ab ac hi re aP ta po en be de fa a5 sp av an ak ne aW aC ag aT aN aF fw a1 H.size H_fw_W) (cwV 1 hts gX11_buttons_X11_noShirt rfl rfl rfl ⟨rfl, hdX11_noShirt⟩ ⟨Nat.le_of_ble_eq_true rfl, Nat.le_of_ble_eq_true rfl⟩) ⟨kBlind, va_recv hK hPc (ci := 10) (q0 := 0) rfl rfl, fun U hU hW => ⟨rfl, by rw [hU], hN.warm hW, hE.pass hS hFc hW hU, by rw [hU]; exact hPc, va_K.moved hW.alike hK, hDc⟩⟩ rfl rfl hl.1 rfl (lv_room (Nat.le_of_ble_eq_true rfl)) dX11_buttons_8 ⟨Nat.le_of_ble_eq_true rfl, Nat.le_of_ble_eq_true rfl⟩) (fun r1 u H locs hw hP hS => ?_)
  obtain ⟨k2, hw⟩ := hw
  rcases hw with ⟨rfl, kc3_0, kc3_1⟩ | rfl
  · skip
    refine lv_if_ne (tgt := 22) hx hb dX11_buttons_11 (by decide) (fun c10 => absurd (by decide) c10) (fun _ => ?_)
    refine lv_aload_n hx hb dX11_buttons_14 rfl (lv_at hl 0 rfl) ?_
    refine lv_iload_n hx hb dX11_buttons_15 rfl (lv_at hl 2 rfl) ?_
    refine kpurei (wc := [(h, oX11 0 aw ai ab ac hi re aP ta po en be de fa a5 sp av an ak ne aW aC ag aT aN aF), (aw, kcI cI 2179 fw)]) hP hD hS hA [0, 1] rfl (by decide) (fun hPc hDc hFc => va_runV (As := [.int b1]) (rest := [.ref h]) ⟨hx, hb, hml, hown, hts⟩ (r_noShirt l D cI cJ cB cC h 0 aw ai ab ac hi re aP ta po en be de fa a5 sp av an ak ne aW aC ag aT aN aF fw b1 H.size H_fw_W) (cwV 1 hts gX11_buttons_X11_noShirt rfl rfl rfl ⟨rfl, hdX11_noShirt⟩ ⟨Nat.le_of_ble_eq_true rfl, Nat.le_of_ble_eq_true rfl⟩) ⟨kBlind, va_recv hK hPc (ci := 10) (q0 := 0) rfl rfl, fun U hU hW => ⟨rfl, by rw [hU], hN.warm hW, hE.pass hS hFc hW hU, by rw [hU]; exact hPc, va_K.moved hW.alike hK, hDc⟩⟩ rfl rfl hl.1 rfl (lv_room (Nat.le_of_ble_eq_true rfl)) dX11_buttons_16 ⟨Nat.le_of_ble_eq_true rfl, Nat.le_of_ble_eq_true rfl⟩) (fun r11 u H locs hw hP hS => ?_)
    obtain ⟨k12, hw⟩ := hw
    rcases hw with ⟨rfl, kc13_0, kc13_1⟩ | rfl
    · skip
      refine lv_if_eq (tgt := 26) hx hb dX11_buttons_19 (by decide) (fun _ => ?_) (fun c14 => absurd (by decide) c14)
      refine lv_iconst (v := 0) hx hb dX11_buttons_26 (by decide) ?_
      refine lv_iconst (v := 1) hx hb dX11_buttons_27 (by decide) ?_
      refine kpurei (wc := [(h, oX11 0 aw ai ab ac hi re aP ta po en be de fa a5 sp av an ak ne aW aC ag aT aN aF)]) hP hD hS hA [0] rfl (by decide) (fun hPc hDc hFc => va_runV (As := [.int 0, .int 1]) (rest := []) ⟨hx, hb, hml, hown, hts⟩ (r_throwsIf0_1 l D cI cJ cB cC h 0 aw ai ab ac hi re aP ta po en be de fa a5 sp av an ak ne aW aC ag aT aN aF 1 H.size) (cwV 2 hts gX11_buttons_X11_throwsIf rfl rfl rfl ⟨rfl, hdX11_throwsIf⟩ ⟨Nat.le_of_ble_eq_true rfl, Nat.le_of_ble_eq_true rfl⟩) ⟨kBlind, va_recv hK hPc (ci := 10) (q0 := 0) rfl rfl, fun U hU hW => ⟨rfl, by rw [hU], hN.warm hW, hE.pass hS hFc hW hU, by rw [hU]; exact hPc, va_K.moved hW.alike hK, hDc⟩⟩ rfl rfl hl.1 rfl (lv_room (Nat.le_of_ble_eq_true rfl)) dX11_buttons_28 ⟨Nat.le_of_ble_eq_true rfl, Nat.le_of_ble_eq_true rfl⟩) (fun r15 u H locs hw hP hS => ?_)
      obtain ⟨k16, k17⟩ := hw
      refine lv_if_ne (tgt := 52) hx hb dX11_buttons_31 (by decide) (fun c44 => absurd (rg_eq k16 (rg_lit (n := 0) (by decide)) (by decide)) c44) (fun _ => ?_)
      refine lv_aload_n hx hb dX11_buttons_34 rfl (lv_at hl 0 rfl) ?_
      refine lv_iload_n hx hb dX11_buttons_35 rfl (lv_at hl 1 rfl) ?_
      refine lv_iload_n hx hb dX11_buttons_36 rfl (lv_at hl 2 rfl) ?_
      refine lv_icmp_ne (tgt := 44) hx hb dX11_buttons_37 (by decide) (fun c46 => ?_) (fun c46 => ?_)
      · skip
        refine lv_iconst (v := 0) hx hb dX11_buttons_44 (by decide) ?_
        refine lv_iconst (v := 2) hx hb dX11_buttons_45 (by decide) ?_
        refine kpurei (wc := [(h, oX11 0 aw ai ab ac hi re aP ta po en be de fa a5 sp av an ak ne aW aC ag aT aN aF)]) hP hD hS hA [0] rfl (by decide) (fun hPc hDc hFc => va_runV (As := [.int 0, .int 2]) (rest := []) ⟨hx, hb, hml, hown, hts⟩ (r_throwsIf0_1 l D cI cJ cB cC h 0 aw ai ab ac hi re aP ta po en be de fa a5 sp av an ak ne aW aC ag aT aN aF 2 H.size) (cwV 2 hts gX11_buttons_X11_throwsIf rfl rfl rfl ⟨rfl, hdX11_throwsIf⟩ ⟨Nat.le_of_ble_eq_true rfl, Nat.le_of_ble_eq_true rfl⟩) ⟨kBlind, va_recv hK hPc (ci := 10) (q0 := 0) rfl rfl, fun U hU hW => ⟨rfl, by rw [hU], hN.warm hW, hE.pass hS hFc hW hU, by rw [hU]; exact hPc, va_K.moved hW.alike hK, hDc⟩⟩ rfl rfl hl.1 rfl (lv_room (Nat.le_of_ble_eq_true rfl)) dX11_buttons_46 ⟨Nat.le_of_ble_eq_true rfl, Nat.le_of_ble_eq_true rfl⟩) (fun r47 u H locs hw hP hS => ?_)
        obtain ⟨k48, k49⟩ := hw
        refine lv_if_eq (tgt := 53) hx hb dX11_buttons_49 (by decide) (fun _ => ?_) (fun c50 => absurd (rg_eq k48 (rg_lit (n := 0) (by decide)) (by decide)) c50)
        refine lv_aload_n hx hb dX11_buttons_53 rfl (lv_at hl 0 rfl) ?_
        refine kcallv (wc := [(h, oX11 0 aw ai ab ac hi re aP ta po en be de fa a5 sp av an ak ne aW aC ag aT aN aF), (aw, kcI cI 2179 fw), (ac, kcI cI 6060 fc)]) (wr := []) hP hD hS hA [0, 1, 2] [] rfl rfl (by decide) (by decide) (by decide) (fun hPc hDc hFc => va_runV (As := []) (rest := []) ⟨hx, hb, hml, hown, hts⟩ (r_remembers l D cI cJ cB cC h 0 aw ai ab ac hi re aP ta po en be de fa a5 sp av an ak ne aW aC ag aT aN aF fw fc H.size H_re H_fw_W H_fw_B H_fw_L H_fc_C) (cwV 0 hts gX11_buttons_X11_remembers rfl rfl rfl ⟨rfl, hdX11_remembers⟩ ⟨Nat.le_of_ble_eq_true rfl, Nat.le_of_ble_eq_true rfl⟩) ⟨kBlind, va_recv hK hPc (ci := 10) (q0 := 0) rfl rfl, fun U hU hW => ⟨rfl, by rw [hU], hN.warm hW, hE.pass hS hFc hW hU, by rw [hU]; exact hPc, va_K.moved hW.alike hK, hDc⟩⟩ rfl rfl hl.1 rfl (lv_room (Nat.le_of_ble_eq_true rfl)) dX11_buttons_54 ⟨Nat.le_of_ble_eq_true rfl, Nat.le_of_ble_eq_true rfl⟩) (fun u H locs hw hP hD hS => ?_)
        obtain ⟨x51, g52⟩ := u
        have hP : va_P D vwCl [(h, oX11 0 aw ai ab ac hi x51 aP ta po en be de fa a5 sp av an ak ne aW aC ag aT aN aF), (aw, kcI cI 2179 fw), (ac, kcI cI 6060 g52)] H := hP
        have hD : va_D A [(h, oX11 0 aw ai ab ac hi x51 aP ta po en be de fa a5 sp av an ak ne aW aC ag aT aN aF), (aw, kcI cI 2179 fw), (ac, kcI cI 6060 g52)] := hD
        obtain ⟨k53, k54, k55⟩ := hw
        refine lv_aload_n hx hb dX11_buttons_57 rfl (lv_at hl 0 rfl) ?_
        refine lv_iload_n hx hb dX11_buttons_58 rfl (lv_at hl 1 rfl) ?_
        refine lv_iconst (v := 4) hx hb dX11_buttons_59 (by decide) ?_
        refine kpurei (wc := [(h, oX11 0 aw ai ab ac hi x51 aP ta po en be de fa a5 sp av an ak ne aW aC ag aT aN aF), (aw, kcI cI 2179 fw)]) hP hD hS hA [0, 1] rfl (by decide) (fun hPc hDc hFc => va_runV (As := [.int a1, .int 4]) (rest := []) ⟨hx, hb, hml, hown, hts⟩ (r_of4 l D cI cJ cB cC h 0 aw ai ab ac hi x51 aP ta po en be de fa a5 sp av an ak ne aW aC ag aT aN aF fw a1 H.size kc3_0 H_fw_W) (cwV 2 hts gX11_buttons_X11_of rfl rfl rfl ⟨rfl, hdX11_of⟩ ⟨Nat.le_of_ble_eq_true rfl, Nat.le_of_ble_eq_true rfl⟩) ⟨kBlind, va_recv hK hPc (ci := 10) (q0 := 0) rfl rfl, fun U hU hW => ⟨rfl, by rw [hU], hN.warm hW, hE.pass hS hFc hW hU, by rw [hU]; exact hPc, va_K.moved hW.alike hK, hDc⟩⟩ rfl rfl hl.1 rfl (lv_room (Nat.le_of_ble_eq_true rfl)) dX11_buttons_60 ⟨Nat.le_of_ble_eq_true rfl, Nat.le_of_ble_eq_true rfl⟩) (fun r56 u H locs hw hP hS => ?_)
        obtain ⟨k57, k58⟩ := hw
        refine lv_istore_n (lv' := [(3, .int r56), (0, .ref h), (1, .int a1), (2, .int b1)]) hx hb dX11_buttons_63 rfl hl (by decide) rfl (fun ls hl => ?_)
        refine lv_aload_n hx hb dX11_buttons_64 rfl (lv_at hl 1 rfl) ?_
        refine lv_iload_n hx hb dX11_buttons_65 rfl (lv_at hl 2 rfl) ?_
        refine lv_iconst (v := 4) hx hb dX11_buttons_66 (by decide) ?_
        refine lv_aload_n hx hb dX11_buttons_67 rfl (lv_at hl 1 rfl) ?_
        refine lv_iload_n hx hb dX11_buttons_68 rfl (lv_at hl 3 rfl) ?_
        refine lv_iconst (v := 4) hx hb dX11_buttons_69 (by decide) ?_
        refine kpurei (wc := [(h, oX11 0 aw ai ab ac hi x51 aP ta po en be de fa a5 sp av an ak ne aW aC ag aT aN aF), (aw, kcI cI 2179 fw)]) hP hD hS hA [0, 1] rfl (by decide) (fun hPc hDc hFc => va_runV (As := [.int b1, .int 4]) (rest := [.int 4, .int a1, .ref h]) ⟨hx, hb, hml, hown, hts⟩ (r_of4 l D cI cJ cB cC h 0 aw ai ab ac hi x51 aP ta po en be de fa a5 sp av an ak ne aW aC ag aT aN aF fw b1 H.size kc13_0 H_fw_W) (cwV 2 hts gX11_buttons_X11_of rfl rfl rfl ⟨rfl, hdX11_of⟩ ⟨Nat.le_of_ble_eq_true rfl, Nat.le_of_ble_eq_true rfl⟩) ⟨kBlind, va_recv hK hPc (ci := 10) (q0 := 0) rfl rfl, fun U hU hW => ⟨rfl, by rw [hU], hN.warm hW, hE.pass hS hFc hW hU, by rw [hU]; exact hPc, va_K.moved hW.alike hK, hDc⟩⟩ rfl rfl hl.1 rfl (lv_room (Nat.le_of_ble_eq_true rfl)) dX11_buttons_70 ⟨Nat.le_of_ble_eq_true rfl, Nat.le_of_ble_eq_true rfl⟩) (fun r59 u H locs hw hP hS => ?_)
        obtain ⟨k60, k61⟩ := hw
        refine kcallv (wc := [(h, oX11 0 aw ai ab ac hi x51 aP ta po en be de fa a5 sp av an ak ne aW aC ag aT aN aF), (aw, kcI cI 2179 fw)]) (wr := [(ac, kcI cI 6060 g52)]) hP hD hS hA [0, 1] [2] rfl rfl (by decide) (by decide) (by decide) (fun hPc hDc hFc => va_runV (As := [.int a1, .int 4, .int r59]) (rest := []) ⟨hx, hb, hml, hown, hts⟩ (r_sets4x l D cI cJ cB cC h 0 aw ai ab ac hi x51 aP ta po en be de fa a5 sp av an ak ne aW aC ag aT aN aF fw a1 r59 H.size kc3_0) (cwV 3 hts gX11_buttons_X11_sets rfl rfl rfl ⟨rfl, hdX11_sets⟩ ⟨Nat.le_of_ble_eq_true rfl, Nat.le_of_ble_eq_true rfl⟩) ⟨kBlind, va_recv hK hPc (ci := 10) (q0 := 0) rfl rfl, fun U hU hW => ⟨rfl, by rw [hU], hN.warm hW, hE.pass hS hFc hW hU, by rw [hU]; exact hPc, va_K.moved hW.alike hK, hDc⟩⟩ rfl rfl hl.1 rfl (lv_room (Nat.le_of_ble_eq_true rfl)) dX11_buttons_73 ⟨Nat.le_of_ble_eq_true rfl, Nat.le_of_ble_eq_true rfl⟩) (fun u H locs hw hP hD hS => ?_)
        have hP : va_P D vwCl [(ac, kcI cI 6060 g52), (h, oX11 0 aw ai ab ac hi x51 aP ta po en be de fa a5 sp av an ak ne aW aC ag aT aN aF), (aw, kcI cI 2179 (upd fw (65 + 7 * cN a1) r59))] H := hP
        have hD : va_D A [(ac, kcI cI 6060 g52), (h, oX11 0 aw ai ab ac hi x51 aP ta po en be de fa a5 sp av an ak ne aW aC ag aT aN aF), (aw, kcI cI 2179 (upd fw (65 + 7 * cN a1) r59))] := hD
        refine lv_aload_n hx hb dX11_buttons_76 rfl (lv_at hl 1 rfl) ?_
        refine lv_iload_n hx hb dX11_buttons_77 rfl (lv_at hl 3 rfl) ?_
        refine lv_iconst (v := 4) hx hb dX11_buttons_78 (by decide) ?_
        refine lv_iload_n hx hb dX11_buttons_79 rfl (lv_at hl 0 rfl) ?_
        refine kcallv (wc := [(h, oX11 0 aw ai ab ac hi x51 aP ta po en be de fa a5 sp av an ak ne aW aC ag aT aN aF), (aw, kcI cI 2179 (upd fw (65 + 7 * cN a1) r59))]) (wr := [(ac, kcI cI 6060 g52)]) hP hD hS hA [1, 2] [0] rfl rfl (by decide) (by decide) (by decide) (fun hPc hDc hFc => va_runV (As := [.int b1, .int 4, .int r56]) (rest := []) ⟨hx, hb, hml, hown, hts⟩ (r_sets4x l D cI cJ cB cC h 0 aw ai ab ac hi x51 aP ta po en be de fa a5 sp av an ak ne aW aC ag aT aN aF (upd fw (65 + 7 * cN a1) r59) b1 r56 H.size kc13_0) (cwV 3 hts gX11_buttons_X11_sets rfl rfl rfl ⟨rfl, hdX11_sets⟩ ⟨Nat.le_of_ble_eq_true rfl, Nat.le_of_ble_eq_true rfl⟩) ⟨kBlind, va_recv hK hPc (ci := 10) (q0 := 0) rfl rfl, fun U hU hW => ⟨rfl, by rw [hU], hN.warm hW, hE.pass hS hFc hW hU, by rw [hU]; exact hPc, va_K.moved hW.alike hK, hDc⟩⟩ rfl rfl hl.1 rfl (lv_room (Nat.le_of_ble_eq_true rfl)) dX11_buttons_80 ⟨Nat.le_of_ble_eq_true rfl, Nat.le_of_ble_eq_true rfl⟩) (fun u H locs hw hP hD hS => ?_)
        have hP : va_P D vwCl [(ac, kcI cI 6060 g52), (h, oX11 0 aw ai ab ac hi x51 aP ta po en be de fa a5 sp av an ak ne aW aC ag aT aN aF), (aw, kcI cI 2179 (upd (upd fw (65 + 7 * cN a1) r59) (65 + 7 * cN b1) r56))] H := hP
        have hD : va_D A [(ac, kcI cI 6060 g52), (h, oX11 0 aw ai ab ac hi x51 aP ta po en be de fa a5 sp av an ak ne aW aC ag aT aN aF), (aw, kcI cI 2179 (upd (upd fw (65 + 7 * cN a1) r59) (65 + 7 * cN b1) r56))] := hD
        have k63 : wW (upd (upd fw (65 + 7 * cN a1) r59) (65 + 7 * cN b1) r56) := wW_but (wW_but H_fw_W kc3_0) kc13_0
        have k64 : wL (upd (upd fw (65 + 7 * cN a1) r59) (65 + 7 * cN b1) r56) := wL_but (wL_but H_fw_L kc3_0) kc13_0
        have k65 : wB (upd (upd fw (65 + 7 * cN a1) r59) (65 + 7 * cN b1) r56) := wB_swap H_fw_B kc3_0 kc13_0 kc3_1 kc13_1 c46 k60 k57
        generalize hg62 : (upd (upd fw (65 + 7 * cN a1) r59) (65 + 7 * cN b1) r56) = g62 at hP hD k63 k64 k65
        have hP9 := hP.sub (ws' := [(h, oX11 0 aw ai ab ac hi x51 aP ta po en be de fa a5 sp av an ak ne aW aC ag aT aN aF), (aw, kcI cI 2179 g62), (ac, kcI cI 6060 g52)]) [1, 2, 0] rfl
        have hD9 := hD.sub (ws' := [(h, oX11 0 aw ai ab ac hi x51 aP ta po en be de fa a5 sp av an ak ne aW aC ag aT aN aF), (aw, kcI cI 2179 g62), (ac, kcI cI 6060 g52)]) [1, 2, 0] (by decide) rfl
        exact W.vret hx hb hr (fun t ht hW => ⟨⟨((0 : Int32), x51, g62, g52), rfl, ⟨(rg_w k53 (by decide)), k65, k64, k63, k54, (kLet_eq (k2).symm (kif_t rfl (kLet_eq (k12).symm (kif_t rfl (kLet_eq (k17).symm (kif_f (neI c46) (kLet_eq (k49).symm (kC_eq k55 (kLet_eq (k58).symm (kLet_eq (k61).symm (kLet_eq (gT_upd (gT_upd rfl)) (kLet_eq (congrArg gT hg62).symm rfl))))))))))))⟩, by rw [ht]; exact hP9, va_K.moved hW.alike hK, hD9⟩, hS.F ht⟩) hS.2.2 dX11_buttons_83
      · skip
        refine lv_iconst (v := 1) hx hb dX11_buttons_40 (by decide) ?_
        refine lv_goto (tgt := 45) hx hb dX11_buttons_41 (by decide) ?_
        refine lv_iconst (v := 2) hx hb dX11_buttons_45 (by decide) ?_
        refine kcalli (wc := [(h, oX11 0 aw ai ab ac hi re aP ta po en be de fa a5 sp av an ak ne aW aC ag aT aN aF)]) (wr := [(aw, kcI cI 2179 fw), (ac, kcI cI 6060 fc)]) hP hD hS hA [0] [1, 2] rfl rfl (by decide) (by decide) (by decide) (fun hPc hDc hFc => va_runV (As := [.int 1, .int 2]) (rest := []) ⟨hx, hb, hml, hown, hts⟩ (r_throwsIf1_1 l D cI cJ cB cC h 0 aw ai ab ac hi re aP ta po en be de fa a5 sp av an ak ne aW aC ag aT aN aF 2 H.size) (cwV 2 hts gX11_buttons_X11_throwsIf rfl rfl rfl ⟨rfl, hdX11_throwsIf⟩ ⟨Nat.le_of_ble_eq_true rfl, Nat.le_of_ble_eq_true rfl⟩) ⟨kBlind, va_recv hK hPc (ci := 10) (q0 := 0) rfl rfl, fun U hU hW => ⟨rfl, by rw [hU], hN.warm hW, hE.pass hS hFc hW hU, by rw [hU]; exact hPc, va_K.moved hW.alike hK, hDc⟩⟩ rfl rfl hl.1 rfl (lv_room (Nat.le_of_ble_eq_true rfl)) dX11_buttons_46 ⟨Nat.le_of_ble_eq_true rfl, Nat.le_of_ble_eq_true rfl⟩) (fun r67 u H locs hw hP hD hS => ?_)
        obtain ⟨x68, rfl⟩ : ∃ z, z = u := ⟨_, rfl⟩
        have hP : va_P D vwCl [(aw, kcI cI 2179 fw), (ac, kcI cI 6060 fc), (h, oX11 x68 aw ai ab ac hi re aP ta po en be de fa a5 sp av an ak ne aW aC ag aT aN aF)] H := hP
        have hD : va_D A [(aw, kcI cI 2179 fw), (ac, kcI cI 6060 fc), (h, oX11 x68 aw ai ab ac hi re aP ta po en be de fa a5 sp av an ak ne aW aC ag aT aN aF)] := hD
        obtain ⟨k69, k70⟩ := hw
        refine lv_if_eq (tgt := 53) hx hb dX11_buttons_49 (by decide) (fun c71 => absurd c71 (rg_neq k69 (rg_lit (n := 0) (by decide)) (by decide))) (fun _ => ?_)
        have hP9 := hP.sub (ws' := [(h, oX11 x68 aw ai ab ac hi re aP ta po en be de fa a5 sp av an ak ne aW aC ag aT aN aF), (aw, kcI cI 2179 fw), (ac, kcI cI 6060 fc)]) [2, 0, 1] rfl
        have hD9 := hD.sub (ws' := [(h, oX11 x68 aw ai ab ac hi re aP ta po en be de fa a5 sp av an ak ne aW aC ag aT aN aF), (aw, kcI cI 2179 fw), (ac, kcI cI 6060 fc)]) [2, 0, 1] (by decide) rfl
        exact W.vret hx hb hr (fun t ht hW => ⟨⟨(x68, re, fw, fc), rfl, ⟨H_re, H_fw_B, H_fw_L, H_fw_W, H_fc_C, (kLet_eq (k2).symm (kif_t rfl (kLet_eq (k12).symm (kif_t rfl (kLet_eq (k17).symm (kif_t (eqI c46) (kC_eq k70 rfl)))))))⟩, by rw [ht]; exact hP9, va_K.moved hW.alike hK, hD9⟩, hS.F ht⟩) hS.2.2 dX11_buttons_52
    · skip
      refine lv_if_eq (tgt := 26) hx hb dX11_buttons_19 (by decide) (fun c72 => absurd c72 (by decide)) (fun _ => ?_)
      refine lv_iconst (v := 1) hx hb dX11_buttons_22 (by decide) ?_
      refine lv_goto (tgt := 27) hx hb dX11_buttons_23 (by decide) ?_
      refine lv_iconst (v := 1) hx hb dX11_buttons_27 (by decide) ?_
      refine kcalli (wc := [(h, oX11 0 aw ai ab ac hi re aP ta po en be de fa a5 sp av an ak ne aW aC ag aT aN aF)]) (wr := [(aw, kcI cI 2179 fw), (ac, kcI cI 6060 fc)]) hP hD hS hA [0] [1, 2] rfl rfl (by decide) (by decide) (by decide) (fun hPc hDc hFc => va_runV (As := [.int 1, .int 1]) (rest := []) ⟨hx, hb, hml, hown, hts⟩ (r_throwsIf1_1 l D cI cJ cB cC h 0 aw ai ab ac hi re aP ta po en be de fa a5 sp av an ak ne aW aC ag aT aN aF 1 H.size) (cwV 2 hts gX11_buttons_X11_throwsIf rfl rfl rfl ⟨rfl, hdX11_throwsIf⟩ ⟨Nat.le_of_ble_eq_true rfl, Nat.le_of_ble_eq_true rfl⟩) ⟨kBlind, va_recv hK hPc (ci := 10) (q0 := 0) rfl rfl, fun U hU hW => ⟨rfl, by rw [hU], hN.warm hW, hE.pass hS hFc hW hU, by rw [hU]; exact hPc, va_K.moved hW.alike hK, hDc⟩⟩ rfl rfl hl.1 rfl (lv_room (Nat.le_of_ble_eq_true rfl)) dX11_buttons_28 ⟨Nat.le_of_ble_eq_true rfl, Nat.le_of_ble_eq_true rfl⟩) (fun r73 u H locs hw hP hD hS => ?_)
      obtain ⟨x74, rfl⟩ : ∃ z, z = u := ⟨_, rfl⟩
      have hP : va_P D vwCl [(aw, kcI cI 2179 fw), (ac, kcI cI 6060 fc), (h, oX11 x74 aw ai ab ac hi re aP ta po en be de fa a5 sp av an ak ne aW aC ag aT aN aF)] H := hP
      have hD : va_D A [(aw, kcI cI 2179 fw), (ac, kcI cI 6060 fc), (h, oX11 x74 aw ai ab ac hi re aP ta po en be de fa a5 sp av an ak ne aW aC ag aT aN aF)] := hD
      obtain ⟨k75, k76⟩ := hw
      refine lv_if_ne (tgt := 52) hx hb dX11_buttons_31 (by decide) (fun _ => ?_) (fun c78 => absurd c78 (rg_neq k75 (rg_lit (n := 0) (by decide)) (by decide)))
      have hP9 := hP.sub (ws' := [(h, oX11 x74 aw ai ab ac hi re aP ta po en be de fa a5 sp av an ak ne aW aC ag aT aN aF), (aw, kcI cI 2179 fw), (ac, kcI cI 6060 fc)]) [2, 0, 1] rfl
      have hD9 := hD.sub (ws' := [(h, oX11 x74 aw ai ab ac hi re aP ta po en be de fa a5 sp av an ak ne aW aC ag aT aN aF), (aw, kcI cI 2179 fw), (ac, kcI cI 6060 fc)]) [2, 0, 1] (by decide) rfl
      exact W.vret hx hb hr (fun t ht hW => ⟨⟨(x74, re, fw, fc), rfl, ⟨H_re, H_fw_B, H_fw_L, H_fw_W, H_fc_C, (kLet_eq (k2).symm (kif_t rfl (kLet_eq (k12).symm (kif_f (by decide) (kC_eq k76 rfl)))))⟩, by rw [ht]; exact hP9, va_K.moved hW.alike hK, hD9⟩, hS.F ht⟩) hS.2.2 dX11_buttons_52
  · skip
    refine lv_if_ne (tgt := 22) hx hb dX11_buttons_11 (by decide) (fun _ => ?_) (fun c80 => absurd c80 (by decide))
    refine lv_iconst (v := 1) hx hb dX11_buttons_22 (by decide) ?_
    refine lv_goto (tgt := 27) hx hb dX11_buttons_23 (by decide) ?_
    refine lv_iconst (v := 1) hx hb dX11_buttons_27 (by decide) ?_
    refine kcalli (wc := [(h, oX11 0 aw ai ab ac hi re aP ta po en be de fa a5 sp av an ak ne aW aC ag aT aN aF)]) (wr := [(aw, kcI cI 2179 fw), (ac, kcI cI 6060 fc)]) hP hD hS hA [0] [1, 2] rfl rfl (by decide) (by decide) (by decide) (fun hPc hDc hFc => va_runV (As := [.int 1, .int 1]) (rest := []) ⟨hx, hb, hml, hown, hts⟩ (r_throwsIf1_1 l D cI cJ cB cC h 0 aw ai ab ac hi re aP ta po en be de fa a5 sp av an ak ne aW aC ag aT aN aF 1 H.size) (cwV 2 hts gX11_buttons_X11_throwsIf rfl rfl rfl ⟨rfl, hdX11_throwsIf⟩ ⟨Nat.le_of_ble_eq_true rfl, Nat.le_of_ble_eq_true rfl⟩) ⟨kBlind, va_recv hK hPc (ci := 10) (q0 := 0) rfl rfl, fun U hU hW => ⟨rfl, by rw [hU], hN.warm hW, hE.pass hS hFc hW hU, by rw [hU]; exact hPc, va_K.moved hW.alike hK, hDc⟩⟩ rfl rfl hl.1 rfl (lv_room (Nat.le_of_ble_eq_true rfl)) dX11_buttons_28 ⟨Nat.le_of_ble_eq_true rfl, Nat.le_of_ble_eq_true rfl⟩) (fun r81 u H locs hw hP hD hS => ?_)
    obtain ⟨x82, rfl⟩ : ∃ z, z = u := ⟨_, rfl⟩
    have hP : va_P D vwCl [(aw, kcI cI 2179 fw), (ac, kcI cI 6060 fc), (h, oX11 x82 aw ai ab ac hi re aP ta po en be de fa a5 sp av an ak ne aW aC ag aT aN aF)] H := hP
    have hD : va_D A [(aw, kcI cI 2179 fw), (ac, kcI cI 6060 fc), (h, oX11 x82 aw ai ab ac hi re aP ta po en be de fa a5 sp av an ak ne aW aC ag aT aN aF)] := hD
    obtain ⟨k83, k84⟩ := hw
    refine lv_if_ne (tgt := 52) hx hb dX11_buttons_31 (by decide) (fun _ => ?_) (fun c86 => absurd c86 (rg_neq k83 (rg_lit (n := 0) (by decide)) (by decide)))
    have hP9 := hP.sub (ws' := [(h, oX11 x82 aw ai ab ac hi re aP ta po en be de fa a5 sp av an ak ne aW aC ag aT aN aF), (aw, kcI cI 2179 fw), (ac, kcI cI 6060 fc)]) [2, 0, 1] rfl
    have hD9 := hD.sub (ws' := [(h, oX11 x82 aw ai ab ac hi re aP ta po en be de fa a5 sp av an ak ne aW aC ag aT aN aF), (aw, kcI cI 2179 fw), (ac, kcI cI 6060 fc)]) [2, 0, 1] (by decide) rfl
    exact W.vret hx hb hr (fun t ht hW => ⟨⟨(x82, re, fw, fc), rfl, ⟨H_re, H_fw_B, H_fw_L, H_fw_W, H_fc_C, (kLet_eq (k2).symm (kif_f (by decide) (kC_eq k84 rfl)))⟩, by rw [ht]; exact hP9, va_K.moved hW.alike hK, hD9⟩, hS.F ht⟩) hS.2.2 dX11_buttons_52

def kwX11_trace : List Cond := .code yX11_trace cX11_trace 6 (some .int) :: kG
theorem hdX11_trace : yX11_trace.cls ≠ "java/lang/invoke/MethodHandle" ∧ yX11_trace.cls ≠ "java/lang/invoke/VarHandle" ∧ (parseMethodDescriptor yX11_trace.desc).map (fun d => d.parameters.length) = some 1 := by decide +kernel
theorem gX11_trace_J6_bitCount_0f7a4 : GoodIn kG (va_wsS RX11 325 yJ6_bitCount_0f7a4 kwJ6_bitCount_0f7a4) := gK w40_16 (gK w39_12 (gK w39_13 (gK w39_14 gGG)))
theorem gX11_trace_X11_noShirt : GoodIn kG (wsV RX11 283 RX11 yX11_noShirt kwX11_noShirt) := gK w28_12 (gK w28_13 (gK w28_14 (gK w0_5 (gK w28_15 gGG))))
theorem gX11_trace_X11_of : GoodIn kG (wsV RX11 156 RX11 yX11_of kwX11_of) := gK w21_9 (gK w21_10 (gK w21_11 (gK w0_5 (gK w21_12 gGG))))
theorem gX11_trace_X11_throwsIf : GoodIn kG (wsV RX11 258 RX11 yX11_throwsIf kwX11_throwsIf) := gK w23_6 (gK w23_7 (gK w23_8 (gK w0_5 (gK w23_9 gGG))))
theorem dX11_trace_0 : decode cX11_trace 0 = .ok (.aload_n 0, 1) := by decide +kernel
theorem dX11_trace_1 : decode cX11_trace 1 = .ok (.iconst 0, 1) := by decide +kernel
theorem dX11_trace_2 : decode cX11_trace 2 = .ok (.putfield 3, 3) := by decide +kernel
theorem dX11_trace_5 : decode cX11_trace 5 = .ok (.aload_n 0, 1) := by decide +kernel
theorem dX11_trace_6 : decode cX11_trace 6 = .ok (.aload_n 0, 1) := by decide +kernel
theorem dX11_trace_7 : decode cX11_trace 7 = .ok (.iload_n 1, 1) := by decide +kernel
theorem dX11_trace_8 : decode cX11_trace 8 = .ok (.invokevirtual 283, 3) := by decide +kernel
theorem dX11_trace_11 : decode cX11_trace 11 = .ok (.iconst 1, 1) := by decide +kernel
theorem dX11_trace_12 : decode cX11_trace 12 = .ok (.invokevirtual 258, 3) := by decide +kernel
theorem dX11_trace_15 : decode cX11_trace 15 = .ok (.ifCond .eq 5, 3) := by decide +kernel
theorem dX11_trace_18 : decode cX11_trace 18 = .ok (.iconst 0, 1) := by decide +kernel
theorem dX11_trace_19 : decode cX11_trace 19 = .ok (.ireturn, 1) := by decide +kernel
theorem dX11_trace_20 : decode cX11_trace 20 = .ok (.iconst 0, 1) := by decide +kernel
theorem dX11_trace_21 : decode cX11_trace 21 = .ok (.istore_n 2, 1) := by decide +kernel
theorem dX11_trace_22 : decode cX11_trace 22 = .ok (.aload_n 0, 1) := by decide +kernel
theorem dX11_trace_23 : decode cX11_trace 23 = .ok (.iload_n 2, 1) := by decide +kernel
theorem dX11_trace_24 : decode cX11_trace 24 = .ok (.iconst 4, 1) := by decide +kernel
theorem dX11_trace_25 : decode cX11_trace 25 = .ok (.invokevirtual 156, 3) := by decide +kernel
theorem dX11_trace_28 : decode cX11_trace 28 = .ok (.iload_n 1, 1) := by decide +kernel
theorem dX11_trace_29 : decode cX11_trace 29 = .ok (.if_icmp .eq 9, 3) := by decide +kernel
theorem dX11_trace_32 : decode cX11_trace 32 = .ok (.iinc 2 1, 3) := by decide +kernel
theorem dX11_trace_35 : decode cX11_trace 35 = .ok (.goto (-13), 3) := by decide +kernel
theorem dX11_trace_38 : decode cX11_trace 38 = .ok (.iconst 0, 1) := by decide +kernel
theorem dX11_trace_39 : decode cX11_trace 39 = .ok (.istore_n 3, 1) := by decide +kernel
theorem dX11_trace_40 : decode cX11_trace 40 = .ok (.iconst 0, 1) := by decide +kernel
theorem dX11_trace_41 : decode cX11_trace 41 = .ok (.istore 4, 2) := by decide +kernel
theorem dX11_trace_43 : decode cX11_trace 43 = .ok (.iload 4, 2) := by decide +kernel
theorem dX11_trace_45 : decode cX11_trace 45 = .ok (.aload_n 0, 1) := by decide +kernel
theorem dX11_trace_46 : decode cX11_trace 46 = .ok (.getfield 13, 3) := by decide +kernel
theorem dX11_trace_49 : decode cX11_trace 49 = .ok (.bipush 10, 2) := by decide +kernel
theorem dX11_trace_51 : decode cX11_trace 51 = .ok (.iaload, 1) := by decide +kernel
theorem dX11_trace_52 : decode cX11_trace 52 = .ok (.if_icmp .ge 43, 3) := by decide +kernel
theorem dX11_trace_55 : decode cX11_trace 55 = .ok (.aload_n 0, 1) := by decide +kernel
theorem dX11_trace_56 : decode cX11_trace 56 = .ok (.getfield 13, 3) := by decide +kernel
theorem dX11_trace_59 : decode cX11_trace 59 = .ok (.sipush 145, 3) := by decide +kernel
theorem dX11_trace_62 : decode cX11_trace 62 = .ok (.bipush 12, 2) := by decide +kernel
theorem dX11_trace_64 : decode cX11_trace 64 = .ok (.iload 4, 2) := by decide +kernel
theorem dX11_trace_66 : decode cX11_trace 66 = .ok (.imul, 1) := by decide +kernel
theorem dX11_trace_67 : decode cX11_trace 67 = .ok (.iadd, 1) := by decide +kernel
theorem dX11_trace_68 : decode cX11_trace 68 = .ok (.iload_n 2, 1) := by decide +kernel
theorem dX11_trace_69 : decode cX11_trace 69 = .ok (.iadd, 1) := by decide +kernel
theorem dX11_trace_70 : decode cX11_trace 70 = .ok (.iaload, 1) := by decide +kernel
theorem dX11_trace_71 : decode cX11_trace 71 = .ok (.istore 5, 2) := by decide +kernel
theorem dX11_trace_73 : decode cX11_trace 73 = .ok (.iload_n 3, 1) := by decide +kernel
theorem dX11_trace_74 : decode cX11_trace 74 = .ok (.iload 5, 2) := by decide +kernel
theorem dX11_trace_76 : decode cX11_trace 76 = .ok (.ifCond .lt 10, 3) := by decide +kernel
theorem dX11_trace_79 : decode cX11_trace 79 = .ok (.iconst 1, 1) := by decide +kernel
theorem dX11_trace_80 : decode cX11_trace 80 = .ok (.iload 5, 2) := by decide +kernel
theorem dX11_trace_82 : decode cX11_trace 82 = .ok (.ishl, 1) := by decide +kernel
theorem dX11_trace_83 : decode cX11_trace 83 = .ok (.goto 4, 3) := by decide +kernel
theorem dX11_trace_86 : decode cX11_trace 86 = .ok (.iconst 0, 1) := by decide +kernel
theorem dX11_trace_87 : decode cX11_trace 87 = .ok (.ior, 1) := by decide +kernel
theorem dX11_trace_88 : decode cX11_trace 88 = .ok (.istore_n 3, 1) := by decide +kernel
theorem dX11_trace_89 : decode cX11_trace 89 = .ok (.iinc 4 1, 3) := by decide +kernel
theorem dX11_trace_92 : decode cX11_trace 92 = .ok (.goto (-49), 3) := by decide +kernel
theorem dX11_trace_95 : decode cX11_trace 95 = .ok (.iload_n 3, 1) := by decide +kernel
theorem dX11_trace_96 : decode cX11_trace 96 = .ok (.invokestatic 325, 3) := by decide +kernel
theorem dX11_trace_99 : decode cX11_trace 99 = .ok (.ireturn, 1) := by decide +kernel
set_option maxHeartbeats 4000000 in
set_option maxRecDepth 100000 in
/-- reference: trace -/
theorem r_trace (l : Launch) (D : va_G) (cI cJ cB cC : ClassId) (h : Nat) (th : Int32) (aw : Nat) (ai : Nat) (ab : Nat) (ac : Nat) (hi : Int32) (re : Int32) (aP : Nat) (ta : Int32) (po : Int32) (en : Int32) (be : Int32) (de : Int32) (fa : Int32) (a5 : Nat) (sp : Int32) (av : Nat) (an : Nat) (ak : Nat) (ne : Int32) (aW : Nat) (aC : Nat) (ag : Nat) (aT : Nat) (aN : Nat) (aF : Nat) (fw : Nat → Int32) (bt : Int32) (sz : Nat) (H_fw_W : wW fw) (H_fw_B : wB fw) : Met l yX11_trace kwX11_trace ({ frames := 2, cells := 0, slots := 0, locals := 43 } : Room) (kPre D (kT cI cJ cB cC) sz [(h, oX11 th aw ai ab ac hi re aP ta po en be de fa a5 sp av an ak ne aW aC ag aT aN aF), (aw, kcI cI 2179 fw)] [.ref h, .int bt]) (va_Qi (fun (r : Int32) (n0_ : Int32) => Rg r 0 63 ∧ F_r_trace (gT fw) (bt : Int32).toInt = ((r : Int32).toInt, (n0_ : Int32).toInt)) (fun (n0_ : Int32) (t : State) => kB D (kT cI cJ cB cC) (va_A [(h, oX11 th aw ai ab ac hi re aP ta po en be de fa a5 sp av an ak ne aW aC ag aT aN aF), (aw, kcI cI 2179 fw)] sz) [(h, oX11 n0_ aw ai ab ac hi re aP ta po en be de fa a5 sp av an ak ne aW aC ag aT aN aF), (aw, kcI cI 2179 fw)] t) (va_A [(h, oX11 th aw ai ab ac hi re aP ta po en be de fa a5 sp av an ak ne aW aC ag aT aN aF), (aw, kcI cI 2179 fw)] sz)) 0 0 (va_A [(h, oX11 th aw ai ab ac hi re aP ta po en be de fa a5 sp av an ak ne aW aC ag aT aN aF), (aw, kcI cI 2179 fw)] sz) := by
  refine Met.ofW (cc := cX11_trace) (maxL := 6) (ret := (some .int)) (by decide) rfl ?_
  intro p e s m args below meth c s₁ B hml hv
  obtain ⟨rfl, hsz, hN, hE, hP, hK, hD0⟩ := hv
  have hx := B.exec
  have hb := B.bytes
  have hr := B.returns
  have hts := fun (w : Cond) (h : w ∈ kG) => atoms_spec (ws := kwX11_trace) B.pre w (List.mem_cons_of_mem _ h)
  have hown : s.vm.findClass RX11 = some m.cls := findClass_of_methodNamed B.named
  subst hsz
  have hD := hD0.self (sz := s.heap.size)
  generalize hAe : va_A [(h, oX11 th aw ai ab ac hi re aP ta po en be de fa a5 sp av an ak ne aW aC ag aT aN aF), (aw, kcI cI 2179 fw)] s.heap.size = A at hD hE ⊢
  have hA : ∀ q : Nat, s.heap.size ≤ q → A q := fun q h => by rw [← hAe]; exact Or.inr h
  have hl := lv_entry ([.ref h, .int bt]) (n := 6) (Nat.le_of_ble_eq_true rfl)
  rw [lg_entry_eq]
  generalize (lg_sl ([.ref h, .int bt]) ++ List.replicate (6 - (lg_sl ([.ref h, .int bt])).length) Slot.unset).toArray = ls at hl ⊢
  have hl : lv_has ls 6 [(0, .ref h), (1, .int bt)] := hl
  obtain ⟨H, hH0⟩ : ∃ H, H = s.heap := ⟨_, rfl⟩
  have hS : va_S A s.heap H [] := by rw [hH0]; exact va_S.rf
  have hP : va_P D vwCl [(h, oX11 th aw ai ab ac hi re aP ta po en be de fa a5 sp av an ak ne aW aC ag aT aN aF), (aw, kcI cI 2179 fw)] H := by rw [hH0]; exact hP
  refine kHeap hH0 ?_
  clear hH0
  refine lv_aload_n hx hb dX11_trace_0 rfl (lv_at hl 0 rfl) ?_
  refine lv_iconst (v := 0) hx hb dX11_trace_1 (by decide) ?_
  refine va_put (D := D) (ci := 10) (v := .int 0) (ty := .int) (C := RX11) (T := TX11) (N := 26) hx hb hts iG_X11 tyX11 tyX11_ok nmX11 hown hK hP hD hS 0 rfl rfl 0 (by decide) (hts _ w6_8) (fun _ h9 => h9) rfl (by decide +kernel) rfl rfl (Nat.le_of_ble_eq_true rfl) dX11_trace_2 (fun H locs hP hD hS => ?_)
  have hP : va_P D vwCl [(h, oX11 0 aw ai ab ac hi re aP ta po en be de fa a5 sp av an ak ne aW aC ag aT aN aF), (aw, kcI cI 2179 fw)] H := hP
  have hD : va_D A [(h, oX11 0 aw ai ab ac hi re aP ta po en be de fa a5 sp av an ak ne aW aC ag aT aN aF), (aw, kcI cI 2179 fw)] := hD
  refine lv_aload_n hx hb dX11_trace_5 rfl (lv_at hl 0 rfl) ?_
  refine lv_aload_n hx hb dX11_trace_6 rfl (lv_at hl 0 rfl) ?_
  refine lv_iload_n hx hb dX11_trace_7 rfl (lv_at hl 1 rfl) ?_
  refine kpurei (wc := [(h, oX11 0 aw ai ab ac hi re aP ta po en be de fa a5 sp av an ak ne aW aC ag aT aN aF), (aw, kcI cI 2179 fw)]) hP hD hS hA [0, 1] rfl (by decide) (fun hPc hDc hFc => va_runV (As := [.int bt]) (rest := [.ref h]) ⟨hx, hb, hml, hown, hts⟩ (r_noShirt l D cI cJ cB cC h 0 aw ai ab ac hi re aP ta po en be de fa a5 sp av an ak ne aW aC ag aT aN aF fw bt H.size H_fw_W) (cwV 1 hts gX11_trace_X11_noShirt rfl rfl rfl ⟨rfl, hdX11_noShirt⟩ ⟨Nat.le_of_ble_eq_true rfl, Nat.le_of_ble_eq_true rfl⟩) ⟨kBlind, va_recv hK hPc (ci := 10) (q0 := 0) rfl rfl, fun U hU hW => ⟨rfl, by rw [hU], hN.warm hW, hE.pass hS hFc hW hU, by rw [hU]; exact hPc, va_K.moved hW.alike hK, hDc⟩⟩ rfl rfl hl.1 rfl (lv_room (Nat.le_of_ble_eq_true rfl)) dX11_trace_8 ⟨Nat.le_of_ble_eq_true rfl, Nat.le_of_ble_eq_true rfl⟩) (fun r1 u H locs hw hP hS => ?_)
  obtain ⟨k2, hw⟩ := hw
  rcases hw with ⟨rfl, kc3_0, kc3_1⟩ | rfl
  · skip
    refine lv_iconst (v := 1) hx hb dX11_trace_11 (by decide) ?_
    refine kpurei (wc := [(h, oX11 0 aw ai ab ac hi re aP ta po en be de fa a5 sp av an ak ne aW aC ag aT aN aF)]) hP hD hS hA [0] rfl (by decide) (fun hPc hDc hFc => va_runV (As := [.int 0, .int 1]) (rest := []) ⟨hx, hb, hml, hown, hts⟩ (r_throwsIf0_1 l D cI cJ cB cC h 0 aw ai ab ac hi re aP ta po en be de fa a5 sp av an ak ne aW aC ag aT aN aF 1 H.size) (cwV 2 hts gX11_trace_X11_throwsIf rfl rfl rfl ⟨rfl, hdX11_throwsIf⟩ ⟨Nat.le_of_ble_eq_true rfl, Nat.le_of_ble_eq_true rfl⟩) ⟨kBlind, va_recv hK hPc (ci := 10) (q0 := 0) rfl rfl, fun U hU hW => ⟨rfl, by rw [hU], hN.warm hW, hE.pass hS hFc hW hU, by rw [hU]; exact hPc, va_K.moved hW.alike hK, hDc⟩⟩ rfl rfl hl.1 rfl (lv_room (Nat.le_of_ble_eq_true rfl)) dX11_trace_12 ⟨Nat.le_of_ble_eq_true rfl, Nat.le_of_ble_eq_true rfl⟩) (fun r4 u H locs hw hP hS => ?_)
    obtain ⟨k5, k6⟩ := hw
    refine lv_if_eq (tgt := 20) hx hb dX11_trace_15 (by decide) (fun _ => ?_) (fun c7 => absurd (rg_eq k5 (rg_lit (n := 0) (by decide)) (by decide)) c7)
    refine lv_iconst (v := 0) hx hb dX11_trace_20 (by decide) ?_
    refine lv_istore_n (lv' := [(2, .int 0), (0, .ref h), (1, .int bt)]) hx hb dX11_trace_21 rfl hl (by decide) rfl (fun ls hl => ?_)
    refine k_loop (hd := 22) (fun (y146 : Int32) => (12 - (y146).toInt).toNat) (fun (y146 : Int32) (H : Heap) (locs : List Loc) (ls : Array Slot) => (∃ s9 : Nat, (y146 : Int32).toInt ≤ (s9 : Int) ∧ (s9 : Int) < (fw 1).toInt ∧ (fw (65 + 7 * s9)).toInt = (bt : Int32).toInt) ∧ (F_r_trace (gT fw) bt.toInt = F_r_trace_l1 (gT fw) bt.toInt (y146.toInt)) ∧ Rg y146 0 12 ∧ va_P D vwCl [(h, oX11 0 aw ai ab ac hi re aP ta po en be de fa a5 sp av an ak ne aW aC ag aT aN aF), (aw, kcI cI 2179 fw)] H ∧ va_D A [(h, oX11 0 aw ai ab ac hi re aP ta po en be de fa a5 sp av an ak ne aW aC ag aT aN aF), (aw, kcI cI 2179 fw)] ∧ va_S A s.heap H locs ∧ lv_has ls 6 [(2, .int y146), (0, .ref h), (1, .int bt)]) ((0 : Int32)) ⟨(by have q0 := kc3_0; unfold Rg at q0; have q5 := kc3_1; obtain ⟨s9, q1, q2⟩ := (H_fw_B : wB fw) (cN bt) (by (try simp only [cN]); omega); have q4 : (0 : Int32).toInt = 0 := (by decide); exact ⟨s9, by omega, q1, by rw [q2]; simp only [cN]; omega⟩), (kLet_eq (k2).symm (kif_t rfl (kLet_eq (k6).symm rfl))), (rg_w (rg_lit (n := 0) (by decide)) (by decide)), hP.sub (ws' := [(h, oX11 0 aw ai ab ac hi re aP ta po en be de fa a5 sp av an ak ne aW aC ag aT aN aF), (aw, kcI cI 2179 fw)]) [0, 1] rfl, hD.sub (ws' := [(h, oX11 0 aw ai ab ac hi re aP ta po en be de fa a5 sp av an ak ne aW aC ag aT aN aF), (aw, kcI cI 2179 fw)]) [0, 1] (by decide) rfl, hS, lv_sub (l' := [(2, .int 0), (0, .ref h), (1, .int bt)]) hl [0, 1, 2] rfl⟩ (fun u H locs ls hI ih147 => ?_)
    clear hP hD hS hl
    obtain ⟨y146, rfl⟩ : ∃ z, z = u := ⟨_, rfl⟩
    obtain ⟨hX22_0, hF1, hy146, hP, hD, hS, hl⟩ := hI
    have hP : va_P D vwCl [(h, oX11 0 aw ai ab ac hi re aP ta po en be de fa a5 sp av an ak ne aW aC ag aT aN aF), (aw, kcI cI 2179 fw)] H := hP
    have hD : va_D A [(h, oX11 0 aw ai ab ac hi re aP ta po en be de fa a5 sp av an ak ne aW aC ag aT aN aF), (aw, kcI cI 2179 fw)] := hD
    have hl : lv_has ls 6 [(2, .int y146), (0, .ref h), (1, .int bt)] := hl
    have k148 : Rg y146 0 11 := (by obtain ⟨s9, q1, q2, q3⟩ := hX22_0; have q4 := (H_fw_W : wW fw).1.2.1.2; have q5 := hy146; unfold Rg at q5; exact ⟨by omega, by omega⟩)
    refine lv_aload_n hx hb dX11_trace_22 rfl (lv_at hl 1 rfl) ?_
    refine lv_iload_n hx hb dX11_trace_23 rfl (lv_at hl 0 rfl) ?_
    refine lv_iconst (v := 4) hx hb dX11_trace_24 (by decide) ?_
    refine kpurei (wc := [(h, oX11 0 aw ai ab ac hi re aP ta po en be de fa a5 sp av an ak ne aW aC ag aT aN aF), (aw, kcI cI 2179 fw)]) hP hD hS hA [0, 1] rfl (by decide) (fun hPc hDc hFc => va_runV (As := [.int y146, .int 4]) (rest := []) ⟨hx, hb, hml, hown, hts⟩ (r_of4 l D cI cJ cB cC h 0 aw ai ab ac hi re aP ta po en be de fa a5 sp av an ak ne aW aC ag aT aN aF fw y146 H.size k148 H_fw_W) (cwV 2 hts gX11_trace_X11_of rfl rfl rfl ⟨rfl, hdX11_of⟩ ⟨Nat.le_of_ble_eq_true rfl, Nat.le_of_ble_eq_true rfl⟩) ⟨kBlind, va_recv hK hPc (ci := 10) (q0 := 0) rfl rfl, fun U hU hW => ⟨rfl, by rw [hU], hN.warm hW, hE.pass hS hFc hW hU, by rw [hU]; exact hPc, va_K.moved hW.alike hK, hDc⟩⟩ rfl rfl hl.1 rfl (lv_room (Nat.le_of_ble_eq_true rfl)) dX11_trace_25 ⟨Nat.le_of_ble_eq_true rfl, Nat.le_of_ble_eq_true rfl⟩) (fun r149 u H locs hw hP hS => ?_)
    obtain ⟨k150, k151⟩ := hw
    refine lv_iload_n hx hb dX11_trace_28 rfl (lv_at hl 2 rfl) ?_
    refine lv_icmp_eq (tgt := 38) hx hb dX11_trace_29 (by decide) (fun c152 => ?_) (fun c152 => ?_)
    · skip
      have k153 : Rg r149 0 11 := rg_q1 (eqI c152) (rg_any r149) kc3_0 (by decide)
      refine lv_iconst (v := 0) hx hb dX11_trace_38 (by decide) ?_
      refine lv_istore_n (lv' := [(3, .int 0), (2, .int y146), (0, .ref h), (1, .int bt)]) hx hb dX11_trace_39 rfl hl (by decide) rfl (fun ls hl => ?_)
      refine lv_iconst (v := 0) hx hb dX11_trace_40 (by decide) ?_
      refine lv_istore (lv' := [(4, .int 0), (3, .int 0), (2, .int y146), (0, .ref h), (1, .int bt)]) hx hb dX11_trace_41 hl (by decide) rfl (fun ls hl => ?_)
      refine k_loop (hd := 43) (fun (u : Int32 × Int32) => match u with | (y513, y514) => (30 - (y513).toInt).toNat) (fun (u : Int32 × Int32) (H : Heap) (locs : List Loc) (ls : Array Slot) => match u with | (y513, y514) => (F_r_trace_l1_s (gT fw) bt.toInt (y146.toInt) = F_r_trace_l2 (gT fw) y146.toInt (y513.toInt, y514.toInt)) ∧ Rg y513 0 30 ∧ va_P D vwCl [(h, oX11 0 aw ai ab ac hi re aP ta po en be de fa a5 sp av an ak ne aW aC ag aT aN aF), (aw, kcI cI 2179 fw)] H ∧ va_D A [(h, oX11 0 aw ai ab ac hi re aP ta po en be de fa a5 sp av an ak ne aW aC ag aT aN aF), (aw, kcI cI 2179 fw)] ∧ va_S A s.heap H locs ∧ lv_has ls 6 [(4, .int y513), (3, .int y514), (2, .int y146), (0, .ref h), (1, .int bt)]) ((0 : Int32), (0 : Int32)) ⟨(kLet_eq (k151).symm (kif_t (eqI c152) rfl)), (rg_w (rg_lit (n := 0) (by decide)) (by decide)), hP.sub (ws' := [(h, oX11 0 aw ai ab ac hi re aP ta po en be de fa a5 sp av an ak ne aW aC ag aT aN aF), (aw, kcI cI 2179 fw)]) [0, 1] rfl, hD.sub (ws' := [(h, oX11 0 aw ai ab ac hi re aP ta po en be de fa a5 sp av an ak ne aW aC ag aT aN aF), (aw, kcI cI 2179 fw)]) [0, 1] (by decide) rfl, hS, lv_sub (l' := [(4, .int 0), (3, .int 0), (2, .int y146), (0, .ref h), (1, .int bt)]) hl [0, 1, 2, 3, 4] rfl⟩ (fun u H locs ls hI ih515 => ?_)
      clear hP hD hS hl
      obtain ⟨y513, y514⟩ := u
      obtain ⟨hF2, hy513, hP, hD, hS, hl⟩ := hI
      have hP : va_P D vwCl [(h, oX11 0 aw ai ab ac hi re aP ta po en be de fa a5 sp av an ak ne aW aC ag aT aN aF), (aw, kcI cI 2179 fw)] H := hP
      have hD : va_D A [(h, oX11 0 aw ai ab ac hi re aP ta po en be de fa a5 sp av an ak ne aW aC ag aT aN aF), (aw, kcI cI 2179 fw)] := hD
      have hl : lv_has ls 6 [(4, .int y513), (3, .int y514), (2, .int y146), (0, .ref h), (1, .int bt)] := hl
      refine lv_iload hx hb dX11_trace_43 (lv_at hl 0 rfl) ?_
      refine lv_aload_n hx hb dX11_trace_45 rfl (lv_at hl 3 rfl) ?_
      refine va_get (D := D) (ci := 10) (v := .ref aw) (C := RX11) (T := TX11) (N := 26) hx hb hts iG_X11 hown hK hP 0 rfl rfl 1 (by decide) (hts _ w5_3) (fun _ h9 => h9) rfl dX11_trace_46 ?_
      refine lv_bipush (v := 10) hx hb dX11_trace_49 (by decide) ?_
      refine va_iald hx hb hK hP 1 0 rfl rfl (rg_in (rg_lit (n := 10) (by decide)) (by decide)) dX11_trace_51 ?_
      refine lv_topi (fun x516 ex516 => ?_)
      have k517 : Rg x516 0 30 := wW_10 H_fw_W ex516
      refine lv_icmp_ge (tgt := 95) hx hb dX11_trace_52 (by decide) (fun c518 => ?_) (fun c518 => ?_)
      · skip
        refine lv_iload_n hx hb dX11_trace_95 rfl (lv_at hl 1 rfl) ?_
        refine kpurei (wc := []) hP hD hS hA [] rfl (by decide) (fun hPc hDc hFc => va_runS (As := [.int y514]) (rest := []) ⟨hx, hb, hml, hown, hts⟩ (z_bitCount l D cI cJ cB cC y514 H.size) (va_cwS 1 hts gX11_trace_J6_bitCount_0f7a4 rfl rfl rfl hdJ6_bitCount_0f7a4 ⟨Nat.le_of_ble_eq_true rfl, Nat.le_of_ble_eq_true rfl⟩) ⟨kBlind, fun U hU hW => ⟨rfl, by rw [hU], hN.warm hW, hE.pass hS hFc hW hU, by rw [hU]; exact hPc, va_K.moved hW.alike hK, hDc⟩⟩ rfl rfl hl.1 rfl (lv_room (Nat.le_of_ble_eq_true rfl)) dX11_trace_96 ⟨Nat.le_of_ble_eq_true rfl, Nat.le_of_ble_eq_true rfl⟩) (fun r519 u H locs hw hP hS => ?_)
        obtain ⟨k520, k521⟩ := hw
        have hP9 := hP.sub (ws' := [(h, oX11 0 aw ai ab ac hi re aP ta po en be de fa a5 sp av an ak ne aW aC ag aT aN aF), (aw, kcI cI 2179 fw)]) [0, 1] rfl
        have hD9 := hD.sub (ws' := [(h, oX11 0 aw ai ab ac hi re aP ta po en be de fa a5 sp av an ak ne aW aC ag aT aN aF), (aw, kcI cI 2179 fw)]) [0, 1] (by decide) rfl
        exact W.iret (v := r519) hx hb hr (fun t ht hW => ⟨⟨r519, ((0 : Int32)), rfl, ⟨k520, (hF1.trans (kIter_out (hF2.trans (kIter_out (kC_eq rfl (kLet_eq (ke_ld ex516) (kif_t (leI c518) (kLet_eq (k521).symm rfl))))))))⟩, by rw [ht]; exact hP9, va_K.moved hW.alike hK, hD9⟩, hS.F ht⟩) hS.2.2 dX11_trace_99
      · skip
        have k522 : Rg y513 0 29 := rg_l1 (nleI c518) hy513 k517 (by decide)
        have k523 : Rg x516 1 30 := rg_l2 (nleI c518) hy513 k517 (by decide)
        refine lv_aload_n hx hb dX11_trace_55 rfl (lv_at hl 3 rfl) ?_
        refine va_get (D := D) (ci := 10) (v := .ref aw) (C := RX11) (T := TX11) (N := 26) hx hb hts iG_X11 hown hK hP 0 rfl rfl 1 (by decide) (hts _ w5_3) (fun _ h9 => h9) rfl dX11_trace_56 ?_
        refine lv_sipush (v := 145) hx hb dX11_trace_59 (by decide) ?_
        refine lv_bipush (v := 12) hx hb dX11_trace_62 (by decide) ?_
        refine lv_iload hx hb dX11_trace_64 (lv_at hl 0 rfl) ?_
        refine lv_imul hx hb dX11_trace_66 ?_
        refine lv_topi (fun x524 ex524 => ?_)
        have k525 : Rg x524 0 348 := rg_mul ex524 (rg_lit (n := 12) (by decide)) k522 (by decide)
        refine lv_iadd hx hb dX11_trace_67 ?_
        refine lv_topi (fun x526 ex526 => ?_)
        have k527 : Rg x526 145 493 := rg_add ex526 (rg_lit (n := 145) (by decide)) k525 (by decide)
        refine lv_iload_n hx hb dX11_trace_68 rfl (lv_at hl 2 rfl) ?_
        refine lv_iadd hx hb dX11_trace_69 ?_
        refine lv_topi (fun x528 ex528 => ?_)
        have k529 : Rg x528 145 504 := rg_add ex528 k527 k148 (by decide)
        refine va_iald hx hb hK hP 1 0 rfl rfl (rg_in k529 (by decide)) dX11_trace_70 ?_
        refine lv_topi (fun x530 ex530 => ?_)
        refine lv_istore (lv' := [(5, .int x530), (4, .int y513), (3, .int y514), (2, .int y146), (0, .ref h), (1, .int bt)]) hx hb dX11_trace_71 hl (by decide) rfl (fun ls hl => ?_)
        refine lv_iload_n hx hb dX11_trace_73 rfl (lv_at hl 2 rfl) ?_
        refine lv_iload hx hb dX11_trace_74 (lv_at hl 0 rfl) ?_
        refine k_join (hd := 87) (cells2 := 0) (slots2 := 0) (fun (u : Int32 × Int32) => match u with | (z537, z538) => [.int z537, .int z538]) (fun (u : Int32 × Int32) (H : Heap) (locs : List Loc) (ls : Array Slot) => match u with | (z537, z538) => (F_r_trace_l2_s (gT fw) y146.toInt (y513.toInt, y514.toInt) = F_r_trace_j3 y513.toInt z537.toInt z538.toInt) ∧ va_P D vwCl [(h, oX11 0 aw ai ab ac hi re aP ta po en be de fa a5 sp av an ak ne aW aC ag aT aN aF), (aw, kcI cI 2179 fw)] H ∧ va_D A [(h, oX11 0 aw ai ab ac hi re aP ta po en be de fa a5 sp av an ak ne aW aC ag aT aN aF), (aw, kcI cI 2179 fw)] ∧ va_S A s.heap H locs ∧ lv_has ls 6 [(5, .int x530), (4, .int y513), (3, .int y514), (2, .int y146), (0, .ref h), (1, .int bt)]) (fun u H locs ls hI => ?_) (fun hJ87 => ?_)
        · skip
          clear hP hD hS hl
          obtain ⟨z537, z538⟩ := u
          obtain ⟨hF3, hP, hD, hS, hl⟩ := hI
          have hP : va_P D vwCl [(h, oX11 0 aw ai ab ac hi re aP ta po en be de fa a5 sp av an ak ne aW aC ag aT aN aF), (aw, kcI cI 2179 fw)] H := hP
          have hD : va_D A [(h, oX11 0 aw ai ab ac hi re aP ta po en be de fa a5 sp av an ak ne aW aC ag aT aN aF), (aw, kcI cI 2179 fw)] := hD
          have hl : lv_has ls 6 [(5, .int x530), (4, .int y513), (3, .int y514), (2, .int y146), (0, .ref h), (1, .int bt)] := hl
          show W _ _ _ _ _ _ _ _ _ _ _ _ _ _ _ (F0 m 87 ls [.int z537, .int z538])
          refine lv_ior hx hb dX11_trace_87 ?_
          refine lv_topi (fun x539 ex539 => ?_)
          refine lv_istore_n (lv' := [(3, .int x539), (5, .int x530), (4, .int y513), (2, .int y146), (0, .ref h), (1, .int bt)]) hx hb dX11_trace_88 rfl hl (by decide) rfl (fun ls hl => ?_)
          obtain ⟨x540, ex540⟩ : ∃ y : Int32, y = y513 + 1 := ⟨_, rfl⟩
          refine lv_iinc (v := x540) (lv' := [(4, .int x540), (3, .int x539), (5, .int x530), (2, .int y146), (0, .ref h), (1, .int bt)]) hx hb dX11_trace_89 hl (k := 2) rfl (by rw [ex540]; rfl) (by decide) rfl (fun ls hl => ?_)
          have k541 : Rg x540 1 30 := rg_add ex540 k522 (rg_lit (n := 1) (by decide)) (by decide)
          refine lv_goto (tgt := 43) hx hb dX11_trace_92 (by decide) ?_
          exact ih515 (x540, x539) _ _ _ (by show (30 - (x540).toInt).toNat < (30 - (y513).toInt).toNat; exact mu_up ex540 k522 k541 (by decide)) ⟨(hF2.trans (kIter_go (hF3.trans (kLet_eq (ke_or ex539) (kLet_eq (ti_add ex540 k522 (rg_lit (n := 1) (by decide)) (by decide) rfl rfl) rfl))))), (rg_w k541 (by decide)), hP.sub (ws' := [(h, oX11 0 aw ai ab ac hi re aP ta po en be de fa a5 sp av an ak ne aW aC ag aT aN aF), (aw, kcI cI 2179 fw)]) [0, 1] rfl, hD.sub (ws' := [(h, oX11 0 aw ai ab ac hi re aP ta po en be de fa a5 sp av an ak ne aW aC ag aT aN aF), (aw, kcI cI 2179 fw)]) [0, 1] (by decide) rfl, hS, lv_sub (l' := [(4, .int x540), (3, .int x539), (2, .int y146), (0, .ref h), (1, .int bt)]) hl [0, 1, 3, 4, 5] rfl⟩
        refine lv_if_lt (tgt := 86) hx hb dX11_trace_76 (by decide) (fun c542 => ?_) (fun c542 => ?_)
        · skip
          have k543 : Rg x530 (-2147483648) (-1) := rg_l1 (ltI c542) (rg_any x530) (rg_lit (n := 0) (by decide)) (by decide)
          refine lv_iconst (v := 0) hx hb dX11_trace_86 (by decide) ?_
          exact hJ87 ((0 : Int32), y514) _ _ _ ⟨(kC_eq rfl (kLet_eq (ke_ld ex516) (kif_f (xF_le c518) (kLet_eq (ti_mul ex524 (rg_lit (n := 12) (by decide)) k522 (by decide) rfl rfl) (kLet_eq (ti_add ex526 (rg_lit (n := 145) (by decide)) k525 (by decide) rfl rfl) (kLet_eq (ti_add ex528 k527 k148 (by decide) rfl rfl) (kLet_eq (ke_ld ex530) (kif_t (ltI c542) rfl)))))))), hP.sub (ws' := [(h, oX11 0 aw ai ab ac hi re aP ta po en be de fa a5 sp av an ak ne aW aC ag aT aN aF), (aw, kcI cI 2179 fw)]) [0, 1] rfl, hD.sub (ws' := [(h, oX11 0 aw ai ab ac hi re aP ta po en be de fa a5 sp av an ak ne aW aC ag aT aN aF), (aw, kcI cI 2179 fw)]) [0, 1] (by decide) rfl, hS, lv_sub (l' := [(5, .int x530), (4, .int y513), (3, .int y514), (2, .int y146), (0, .ref h), (1, .int bt)]) hl [0, 1, 2, 3, 4, 5] rfl⟩
        · skip
          have k544 : Rg x530 0 2147483647 := rg_e2 (nltI c542) (rg_lit (n := 0) (by decide)) (rg_any x530) (by decide)
          refine lv_iconst (v := 1) hx hb dX11_trace_79 (by decide) ?_
          refine lv_iload hx hb dX11_trace_80 (lv_at hl 0 rfl) ?_
          refine lv_ishl hx hb dX11_trace_82 ?_
          refine lv_topi (fun x545 ex545 => ?_)
          refine lv_goto (tgt := 87) hx hb dX11_trace_83 (by decide) ?_
          exact hJ87 (x545, y514) _ _ _ ⟨(kC_eq rfl (kLet_eq (ke_ld ex516) (kif_f (xF_le c518) (kLet_eq (ti_mul ex524 (rg_lit (n := 12) (by decide)) k522 (by decide) rfl rfl) (kLet_eq (ti_add ex526 (rg_lit (n := 145) (by decide)) k525 (by decide) rfl rfl) (kLet_eq (ti_add ex528 k527 k148 (by decide) rfl rfl) (kLet_eq (ke_ld ex530) (kif_f (xF_lt c542) (kLet_eq (ke_shl ex545) rfl))))))))), hP.sub (ws' := [(h, oX11 0 aw ai ab ac hi re aP ta po en be de fa a5 sp av an ak ne aW aC ag aT aN aF), (aw, kcI cI 2179 fw)]) [0, 1] rfl, hD.sub (ws' := [(h, oX11 0 aw ai ab ac hi re aP ta po en be de fa a5 sp av an ak ne aW aC ag aT aN aF), (aw, kcI cI 2179 fw)]) [0, 1] (by decide) rfl, hS, lv_sub (l' := [(5, .int x530), (4, .int y513), (3, .int y514), (2, .int y146), (0, .ref h), (1, .int bt)]) hl [0, 1, 2, 3, 4, 5] rfl⟩
    · skip
      obtain ⟨x546, ex546⟩ : ∃ y : Int32, y = y146 + 1 := ⟨_, rfl⟩
      refine lv_iinc (v := x546) (lv' := [(2, .int x546), (0, .ref h), (1, .int bt)]) hx hb dX11_trace_32 hl (k := 0) rfl (by rw [ex546]; rfl) (by decide) rfl (fun ls hl => ?_)
      have k547 : Rg x546 1 12 := rg_add ex546 k148 (rg_lit (n := 1) (by decide)) (by decide)
      refine lv_goto (tgt := 22) hx hb dX11_trace_35 (by decide) ?_
      exact ih147 (x546) _ _ _ (by show (12 - (x546).toInt).toNat < (12 - (y146).toInt).toNat; exact mu_up ex546 k148 k547 (by decide)) ⟨(by obtain ⟨s9, q1, q2, q3⟩ := hX22_0; have q5 := k148; unfold Rg at q5; have q6 : (1 : Int32).toInt = 1 := (by decide); have q7 : x546.toInt = y146.toInt + 1 := (by rw [ex546, Int32.toInt_add, q6, rg_bm (by omega) (by omega)]); have q8 : ¬ (s9 : Int) = y146.toInt := (by intro q9; refine c152 ?_; rw [k150]; refine Int32.toInt_inj.mp ?_; rw [← q3]; unfold wSh; congr 2; omega); exact ⟨s9, by omega, q2, q3⟩), (hF1.trans (kIter_go (kLet_eq (k151).symm (kif_f (neI c152) (kLet_eq (ti_add ex546 k148 (rg_lit (n := 1) (by decide)) (by decide) rfl rfl) rfl))))), (rg_w k547 (by decide)), hP.sub (ws' := [(h, oX11 0 aw ai ab ac hi re aP ta po en be de fa a5 sp av an ak ne aW aC ag aT aN aF), (aw, kcI cI 2179 fw)]) [0, 1] rfl, hD.sub (ws' := [(h, oX11 0 aw ai ab ac hi re aP ta po en be de fa a5 sp av an ak ne aW aC ag aT aN aF), (aw, kcI cI 2179 fw)]) [0, 1] (by decide) rfl, hS, lv_sub (l' := [(2, .int x546), (0, .ref h), (1, .int bt)]) hl [0, 1, 2] rfl⟩
  · skip
    refine lv_iconst (v := 1) hx hb dX11_trace_11 (by decide) ?_
    refine kcalli (wc := [(h, oX11 0 aw ai ab ac hi re aP ta po en be de fa a5 sp av an ak ne aW aC ag aT aN aF)]) (wr := [(aw, kcI cI 2179 fw)]) hP hD hS hA [0] [1] rfl rfl (by decide) (by decide) (by decide) (fun hPc hDc hFc => va_runV (As := [.int 1, .int 1]) (rest := []) ⟨hx, hb, hml, hown, hts⟩ (r_throwsIf1_1 l D cI cJ cB cC h 0 aw ai ab ac hi re aP ta po en be de fa a5 sp av an ak ne aW aC ag aT aN aF 1 H.size) (cwV 2 hts gX11_trace_X11_throwsIf rfl rfl rfl ⟨rfl, hdX11_throwsIf⟩ ⟨Nat.le_of_ble_eq_true rfl, Nat.le_of_ble_eq_true rfl⟩) ⟨kBlind, va_recv hK hPc (ci := 10) (q0 := 0) rfl rfl, fun U hU hW => ⟨rfl, by rw [hU], hN.warm hW, hE.pass hS hFc hW hU, by rw [hU]; exact hPc, va_K.moved hW.alike hK, hDc⟩⟩ rfl rfl hl.1 rfl (lv_room (Nat.le_of_ble_eq_true rfl)) dX11_trace_12 ⟨Nat.le_of_ble_eq_true rfl, Nat.le_of_ble_eq_true rfl⟩) (fun r548 u H locs hw hP hD hS => ?_)
    obtain ⟨x549, rfl⟩ : ∃ z, z = u := ⟨_, rfl⟩
    have hP : va_P D vwCl [(aw, kcI cI 2179 fw), (h, oX11 x549 aw ai ab ac hi re aP ta po en be de fa a5 sp av an ak ne aW aC ag aT aN aF)] H := hP
    have hD : va_D A [(aw, kcI cI 2179 fw), (h, oX11 x549 aw ai ab ac hi re aP ta po en be de fa a5 sp av an ak ne aW aC ag aT aN aF)] := hD
    obtain ⟨k550, k551⟩ := hw
    refine lv_if_eq (tgt := 20) hx hb dX11_trace_15 (by decide) (fun c552 => absurd c552 (rg_neq k550 (rg_lit (n := 0) (by decide)) (by decide))) (fun _ => ?_)
    refine lv_iconst (v := 0) hx hb dX11_trace_18 (by decide) ?_
    have hP9 := hP.sub (ws' := [(h, oX11 x549 aw ai ab ac hi re aP ta po en be de fa a5 sp av an ak ne aW aC ag aT aN aF), (aw, kcI cI 2179 fw)]) [1, 0] rfl
    have hD9 := hD.sub (ws' := [(h, oX11 x549 aw ai ab ac hi re aP ta po en be de fa a5 sp av an ak ne aW aC ag aT aN aF), (aw, kcI cI 2179 fw)]) [1, 0] (by decide) rfl
    exact W.iret (v := 0) hx hb hr (fun t ht hW => ⟨⟨0, (x549), rfl, ⟨(rg_w (rg_lit (n := 0) (by decide)) (by decide)), (kLet_eq (k2).symm (kif_f (by decide) (kC_eq k551 rfl)))⟩, by rw [ht]; exact hP9, va_K.moved hW.alike hK, hD9⟩, hS.F ht⟩) hS.2.2 dX11_trace_19

def kwX11_spies : List Cond := .code yX11_spies cX11_spies 7 (some .int) :: kG
theorem hdX11_spies : yX11_spies.cls ≠ "java/lang/invoke/MethodHandle" ∧ yX11_spies.cls ≠ "java/lang/invoke/VarHandle" ∧ (parseMethodDescriptor yX11_spies.desc).map (fun d => d.parameters.length) = some 0 := by decide +kernel
theorem gX11_spies_X11_has : GoodIn kG (va_wsS RX11 310 yX11_has kwX11_has) := gK w37_11 (gK w37_12 (gK w0_5 (gK w37_13 gGG)))
theorem gX11_spies_X11_shirts : GoodIn kG (wsV RX11 79 RX11 yX11_shirts kwX11_shirts) := gK w20_17 (gK w20_18 (gK w20_19 (gK w0_5 (gK w20_20 gGG))))
theorem gX11_spies_X11_throwsIf : GoodIn kG (wsV RX11 258 RX11 yX11_throwsIf kwX11_throwsIf) := gK w23_6 (gK w23_7 (gK w23_8 (gK w0_5 (gK w23_9 gGG))))
theorem gX11_spies_X11_uses : GoodIn kG (wsV RX11 247 RX11 yX11_uses kwX11_uses) := gK w18_7 (gK w18_8 (gK w18_9 (gK w0_5 (gK w18_10 gGG))))
theorem dX11_spies_0 : decode cX11_spies 0 = .ok (.aload_n 0, 1) := by decide +kernel
theorem dX11_spies_1 : decode cX11_spies 1 = .ok (.invokevirtual 247, 3) := by decide +kernel
theorem dX11_spies_4 : decode cX11_spies 4 = .ok (.aload_n 0, 1) := by decide +kernel
theorem dX11_spies_5 : decode cX11_spies 5 = .ok (.aload_n 0, 1) := by decide +kernel
theorem dX11_spies_6 : decode cX11_spies 6 = .ok (.getfield 89, 3) := by decide +kernel
theorem dX11_spies_9 : decode cX11_spies 9 = .ok (.iconst 2, 1) := by decide +kernel
theorem dX11_spies_10 : decode cX11_spies 10 = .ok (.irem, 1) := by decide +kernel
theorem dX11_spies_11 : decode cX11_spies 11 = .ok (.ifCond .ne 19, 3) := by decide +kernel
theorem dX11_spies_14 : decode cX11_spies 14 = .ok (.aload_n 0, 1) := by decide +kernel
theorem dX11_spies_15 : decode cX11_spies 15 = .ok (.getfield 89, 3) := by decide +kernel
theorem dX11_spies_18 : decode cX11_spies 18 = .ok (.iconst 2, 1) := by decide +kernel
theorem dX11_spies_19 : decode cX11_spies 19 = .ok (.idiv, 1) := by decide +kernel
theorem dX11_spies_20 : decode cX11_spies 20 = .ok (.aload_n 0, 1) := by decide +kernel
theorem dX11_spies_21 : decode cX11_spies 21 = .ok (.getfield 13, 3) := by decide +kernel
theorem dX11_spies_24 : decode cX11_spies 24 = .ok (.bipush 10, 2) := by decide +kernel
theorem dX11_spies_26 : decode cX11_spies 26 = .ok (.iaload, 1) := by decide +kernel
theorem dX11_spies_27 : decode cX11_spies 27 = .ok (.if_icmp .le 7, 3) := by decide +kernel
theorem dX11_spies_30 : decode cX11_spies 30 = .ok (.iconst 1, 1) := by decide +kernel
theorem dX11_spies_31 : decode cX11_spies 31 = .ok (.goto 4, 3) := by decide +kernel
theorem dX11_spies_34 : decode cX11_spies 34 = .ok (.iconst 0, 1) := by decide +kernel
theorem dX11_spies_35 : decode cX11_spies 35 = .ok (.iconst 1, 1) := by decide +kernel
theorem dX11_spies_36 : decode cX11_spies 36 = .ok (.invokevirtual 258, 3) := by decide +kernel
theorem dX11_spies_39 : decode cX11_spies 39 = .ok (.ifCond .eq 5, 3) := by decide +kernel
theorem dX11_spies_42 : decode cX11_spies 42 = .ok (.iconst 0, 1) := by decide +kernel
theorem dX11_spies_43 : decode cX11_spies 43 = .ok (.ireturn, 1) := by decide +kernel
theorem dX11_spies_44 : decode cX11_spies 44 = .ok (.iconst 0, 1) := by decide +kernel
theorem dX11_spies_45 : decode cX11_spies 45 = .ok (.istore_n 1, 1) := by decide +kernel
theorem dX11_spies_46 : decode cX11_spies 46 = .ok (.iconst 0, 1) := by decide +kernel
theorem dX11_spies_47 : decode cX11_spies 47 = .ok (.istore_n 2, 1) := by decide +kernel
theorem dX11_spies_48 : decode cX11_spies 48 = .ok (.iconst 0, 1) := by decide +kernel
theorem dX11_spies_49 : decode cX11_spies 49 = .ok (.istore_n 3, 1) := by decide +kernel
theorem dX11_spies_50 : decode cX11_spies 50 = .ok (.iload_n 3, 1) := by decide +kernel
theorem dX11_spies_51 : decode cX11_spies 51 = .ok (.aload_n 0, 1) := by decide +kernel
theorem dX11_spies_52 : decode cX11_spies 52 = .ok (.getfield 89, 3) := by decide +kernel
theorem dX11_spies_55 : decode cX11_spies 55 = .ok (.iconst 2, 1) := by decide +kernel
theorem dX11_spies_56 : decode cX11_spies 56 = .ok (.idiv, 1) := by decide +kernel
theorem dX11_spies_57 : decode cX11_spies 57 = .ok (.if_icmp .ge 112, 3) := by decide +kernel
theorem dX11_spies_60 : decode cX11_spies 60 = .ok (.aload_n 0, 1) := by decide +kernel
theorem dX11_spies_61 : decode cX11_spies 61 = .ok (.getfield 26, 3) := by decide +kernel
theorem dX11_spies_64 : decode cX11_spies 64 = .ok (.iconst 2, 1) := by decide +kernel
theorem dX11_spies_65 : decode cX11_spies 65 = .ok (.iload_n 3, 1) := by decide +kernel
theorem dX11_spies_66 : decode cX11_spies 66 = .ok (.imul, 1) := by decide +kernel
theorem dX11_spies_67 : decode cX11_spies 67 = .ok (.baload, 1) := by decide +kernel
theorem dX11_spies_68 : decode cX11_spies 68 = .ok (.sipush 255, 3) := by decide +kernel
theorem dX11_spies_71 : decode cX11_spies 71 = .ok (.iand, 1) := by decide +kernel
theorem dX11_spies_72 : decode cX11_spies 72 = .ok (.bipush 8, 2) := by decide +kernel
theorem dX11_spies_74 : decode cX11_spies 74 = .ok (.ishl, 1) := by decide +kernel
theorem dX11_spies_75 : decode cX11_spies 75 = .ok (.aload_n 0, 1) := by decide +kernel
theorem dX11_spies_76 : decode cX11_spies 76 = .ok (.getfield 26, 3) := by decide +kernel
theorem dX11_spies_79 : decode cX11_spies 79 = .ok (.iconst 2, 1) := by decide +kernel
theorem dX11_spies_80 : decode cX11_spies 80 = .ok (.iload_n 3, 1) := by decide +kernel
theorem dX11_spies_81 : decode cX11_spies 81 = .ok (.imul, 1) := by decide +kernel
theorem dX11_spies_82 : decode cX11_spies 82 = .ok (.iconst 1, 1) := by decide +kernel
theorem dX11_spies_83 : decode cX11_spies 83 = .ok (.iadd, 1) := by decide +kernel
theorem dX11_spies_84 : decode cX11_spies 84 = .ok (.baload, 1) := by decide +kernel
theorem dX11_spies_85 : decode cX11_spies 85 = .ok (.sipush 255, 3) := by decide +kernel
theorem dX11_spies_88 : decode cX11_spies 88 = .ok (.iand, 1) := by decide +kernel
theorem dX11_spies_89 : decode cX11_spies 89 = .ok (.ior, 1) := by decide +kernel
theorem dX11_spies_90 : decode cX11_spies 90 = .ok (.istore 4, 2) := by decide +kernel
theorem dX11_spies_92 : decode cX11_spies 92 = .ok (.iconst 0, 1) := by decide +kernel
theorem dX11_spies_93 : decode cX11_spies 93 = .ok (.istore 5, 2) := by decide +kernel
theorem dX11_spies_95 : decode cX11_spies 95 = .ok (.iload 5, 2) := by decide +kernel
theorem dX11_spies_97 : decode cX11_spies 97 = .ok (.aload_n 0, 1) := by decide +kernel
theorem dX11_spies_98 : decode cX11_spies 98 = .ok (.invokevirtual 79, 3) := by decide +kernel
theorem dX11_spies_101 : decode cX11_spies 101 = .ok (.if_icmp .ge 62, 3) := by decide +kernel
theorem dX11_spies_104 : decode cX11_spies 104 = .ok (.aload_n 0, 1) := by decide +kernel
theorem dX11_spies_105 : decode cX11_spies 105 = .ok (.getfield 13, 3) := by decide +kernel
theorem dX11_spies_108 : decode cX11_spies 108 = .ok (.sipush 145, 3) := by decide +kernel
theorem dX11_spies_111 : decode cX11_spies 111 = .ok (.bipush 12, 2) := by decide +kernel
theorem dX11_spies_113 : decode cX11_spies 113 = .ok (.iload_n 3, 1) := by decide +kernel
theorem dX11_spies_114 : decode cX11_spies 114 = .ok (.imul, 1) := by decide +kernel
theorem dX11_spies_115 : decode cX11_spies 115 = .ok (.iadd, 1) := by decide +kernel
theorem dX11_spies_116 : decode cX11_spies 116 = .ok (.iload 5, 2) := by decide +kernel
theorem dX11_spies_118 : decode cX11_spies 118 = .ok (.iadd, 1) := by decide +kernel
theorem dX11_spies_119 : decode cX11_spies 119 = .ok (.iaload, 1) := by decide +kernel
theorem dX11_spies_120 : decode cX11_spies 120 = .ok (.istore 6, 2) := by decide +kernel
theorem dX11_spies_122 : decode cX11_spies 122 = .ok (.iload 6, 2) := by decide +kernel
theorem dX11_spies_124 : decode cX11_spies 124 = .ok (.ifCond .ge 6, 3) := by decide +kernel
theorem dX11_spies_127 : decode cX11_spies 127 = .ok (.goto 30, 3) := by decide +kernel
theorem dX11_spies_130 : decode cX11_spies 130 = .ok (.iload 4, 2) := by decide +kernel
theorem dX11_spies_132 : decode cX11_spies 132 = .ok (.iload 5, 2) := by decide +kernel
theorem dX11_spies_134 : decode cX11_spies 134 = .ok (.invokestatic 310, 3) := by decide +kernel
theorem dX11_spies_137 : decode cX11_spies 137 = .ok (.ifCond .eq 13, 3) := by decide +kernel
theorem dX11_spies_140 : decode cX11_spies 140 = .ok (.iload_n 1, 1) := by decide +kernel
theorem dX11_spies_141 : decode cX11_spies 141 = .ok (.iconst 1, 1) := by decide +kernel
theorem dX11_spies_142 : decode cX11_spies 142 = .ok (.iload 6, 2) := by decide +kernel
theorem dX11_spies_144 : decode cX11_spies 144 = .ok (.ishl, 1) := by decide +kernel
theorem dX11_spies_145 : decode cX11_spies 145 = .ok (.ior, 1) := by decide +kernel
theorem dX11_spies_146 : decode cX11_spies 146 = .ok (.istore_n 1, 1) := by decide +kernel
theorem dX11_spies_147 : decode cX11_spies 147 = .ok (.goto 10, 3) := by decide +kernel
theorem dX11_spies_150 : decode cX11_spies 150 = .ok (.iload_n 2, 1) := by decide +kernel
theorem dX11_spies_151 : decode cX11_spies 151 = .ok (.iconst 1, 1) := by decide +kernel
theorem dX11_spies_152 : decode cX11_spies 152 = .ok (.iload 6, 2) := by decide +kernel
theorem dX11_spies_154 : decode cX11_spies 154 = .ok (.ishl, 1) := by decide +kernel
theorem dX11_spies_155 : decode cX11_spies 155 = .ok (.ior, 1) := by decide +kernel
theorem dX11_spies_156 : decode cX11_spies 156 = .ok (.istore_n 2, 1) := by decide +kernel
theorem dX11_spies_157 : decode cX11_spies 157 = .ok (.iinc 5 1, 3) := by decide +kernel
theorem dX11_spies_160 : decode cX11_spies 160 = .ok (.goto (-65), 3) := by decide +kernel
theorem dX11_spies_163 : decode cX11_spies 163 = .ok (.iinc 3 1, 3) := by decide +kernel
theorem dX11_spies_166 : decode cX11_spies 166 = .ok (.goto (-116), 3) := by decide +kernel
theorem dX11_spies_169 : decode cX11_spies 169 = .ok (.iload_n 1, 1) := by decide +kernel
theorem dX11_spies_170 : decode cX11_spies 170 = .ok (.iload_n 2, 1) := by decide +kernel
theorem dX11_spies_171 : decode cX11_spies 171 = .ok (.iand, 1) := by decide +kernel
theorem dX11_spies_172 : decode cX11_spies 172 = .ok (.ifCond .ne 7, 3) := by decide +kernel
theorem dX11_spies_175 : decode cX11_spies 175 = .ok (.iload_n 1, 1) := by decide +kernel
theorem dX11_spies_176 : decode cX11_spies 176 = .ok (.goto 4, 3) := by decide +kernel
theorem dX11_spies_179 : decode cX11_spies 179 = .ok (.iconst (-1), 1) := by decide +kernel
theorem dX11_spies_180 : decode cX11_spies 180 = .ok (.ireturn, 1) := by decide +kernel
set_option maxHeartbeats 4000000 in
set_option maxRecDepth 100000 in
/-- reference: spies -/
theorem r_spies (l : Launch) (D : va_G) (cI cJ cB cC : ClassId) (h : Nat) (th : Int32) (aw : Nat) (ai : Nat) (ab : Nat) (ac : Nat) (hi : Int32) (re : Int32) (aP : Nat) (ta : Int32) (po : Int32) (en : Int32) (be : Int32) (de : Int32) (fa : Int32) (a5 : Nat) (sp : Int32) (av : Nat) (an : Nat) (ak : Nat) (ne : Int32) (aW : Nat) (aC : Nat) (ag : Nat) (aT : Nat) (aN : Nat) (aF : Nat) (fw : Nat → Int32) (ft : Nat → Int32) (sz : Nat) (H_ta : Rg ta 0 400) (H_fw_W : wW fw) : Met l yX11_spies kwX11_spies ({ frames := 1, cells := 0, slots := 0, locals := 22 } : Room) (kPre D (kT cI cJ cB cC) sz [(h, oX11 th aw ai ab ac hi re aP ta po en be de fa a5 sp av an ak ne aW aC ag aT aN aF), (aw, kcI cI 2179 fw), (aP, .inl (cB, 400, .inl ft))] [.ref h]) (va_Qi (fun (r : Int32) (uu : Int32 × Int32) => match uu with | (n0_, n1_) => Rg n1_ 0 400 ∧ F_r_spies (ta : Int32).toInt (gT fw) (gT ft) = ((r : Int32).toInt, (n0_ : Int32).toInt, (n1_ : Int32).toInt)) (fun (uu : Int32 × Int32) (t : State) => match uu with | (n0_, n1_) => kB D (kT cI cJ cB cC) (va_A [(h, oX11 th aw ai ab ac hi re aP ta po en be de fa a5 sp av an ak ne aW aC ag aT aN aF), (aw, kcI cI 2179 fw), (aP, .inl (cB, 400, .inl ft))] sz) [(h, oX11 n0_ aw ai ab ac hi re aP 0 0 n1_ be de fa a5 sp av an ak ne aW aC ag aT aN aF), (aw, kcI cI 2179 fw), (aP, .inl (cB, 400, .inl ft))] t) (va_A [(h, oX11 th aw ai ab ac hi re aP ta po en be de fa a5 sp av an ak ne aW aC ag aT aN aF), (aw, kcI cI 2179 fw), (aP, .inl (cB, 400, .inl ft))] sz)) 0 0 (va_A [(h, oX11 th aw ai ab ac hi re aP ta po en be de fa a5 sp av an ak ne aW aC ag aT aN aF), (aw, kcI cI 2179 fw), (aP, .inl (cB, 400, .inl ft))] sz) := by
  refine Met.ofW (cc := cX11_spies) (maxL := 7) (ret := (some .int)) (by decide) rfl ?_
  intro p e s m args below meth c s₁ B hml hv
  obtain ⟨rfl, hsz, hN, hE, hP, hK, hD0⟩ := hv
  have hx := B.exec
  have hb := B.bytes
  have hr := B.returns
  have hts := fun (w : Cond) (h : w ∈ kG) => atoms_spec (ws := kwX11_spies) B.pre w (List.mem_cons_of_mem _ h)
  have hown : s.vm.findClass RX11 = some m.cls := findClass_of_methodNamed B.named
  subst hsz
  have hD := hD0.self (sz := s.heap.size)
  generalize hAe : va_A [(h, oX11 th aw ai ab ac hi re aP ta po en be de fa a5 sp av an ak ne aW aC ag aT aN aF), (aw, kcI cI 2179 fw), (aP, .inl (cB, 400, .inl ft))] s.heap.size = A at hD hE ⊢
  have hA : ∀ q : Nat, s.heap.size ≤ q → A q := fun q h => by rw [← hAe]; exact Or.inr h
  have hl := lv_entry ([.ref h]) (n := 7) (Nat.le_of_ble_eq_true rfl)
  rw [lg_entry_eq]
  generalize (lg_sl ([.ref h]) ++ List.replicate (7 - (lg_sl ([.ref h])).length) Slot.unset).toArray = ls at hl ⊢
  have hl : lv_has ls 7 [(0, .ref h)] := hl
  obtain ⟨H, hH0⟩ : ∃ H, H = s.heap := ⟨_, rfl⟩
  have hS : va_S A s.heap H [] := by rw [hH0]; exact va_S.rf
  have hP : va_P D vwCl [(h, oX11 th aw ai ab ac hi re aP ta po en be de fa a5 sp av an ak ne aW aC ag aT aN aF), (aw, kcI cI 2179 fw), (aP, .inl (cB, 400, .inl ft))] H := by rw [hH0]; exact hP
  refine kHeap hH0 ?_
  clear hH0
  refine lv_aload_n hx hb dX11_spies_0 rfl (lv_at hl 0 rfl) ?_
  refine kcallv (wc := [(h, oX11 th aw ai ab ac hi re aP ta po en be de fa a5 sp av an ak ne aW aC ag aT aN aF)]) (wr := [(aw, kcI cI 2179 fw), (aP, .inl (cB, 400, .inl ft))]) hP hD hS hA [0] [1, 2] rfl rfl (by decide) (by decide) (by decide) (fun hPc hDc hFc => va_runV (As := []) (rest := []) ⟨hx, hb, hml, hown, hts⟩ (r_uses l D cI cJ cB cC h th aw ai ab ac hi re aP ta po en be de fa a5 sp av an ak ne aW aC ag aT aN aF H.size H_ta) (cwV 0 hts gX11_spies_X11_uses rfl rfl rfl ⟨rfl, hdX11_uses⟩ ⟨Nat.le_of_ble_eq_true rfl, Nat.le_of_ble_eq_true rfl⟩) ⟨kBlind, va_recv hK hPc (ci := 10) (q0 := 0) rfl rfl, fun U hU hW => ⟨rfl, by rw [hU], hN.warm hW, hE.pass hS hFc hW hU, by rw [hU]; exact hPc, va_K.moved hW.alike hK, hDc⟩⟩ rfl rfl hl.1 rfl (lv_room (Nat.le_of_ble_eq_true rfl)) dX11_spies_1 ⟨Nat.le_of_ble_eq_true rfl, Nat.le_of_ble_eq_true rfl⟩) (fun u H locs hw hP hD hS => ?_)
  have hP : va_P D vwCl [(aw, kcI cI 2179 fw), (aP, .inl (cB, 400, .inl ft)), (h, oX11 0 aw ai ab ac hi re aP 0 0 ta be de fa a5 sp av an ak ne aW aC ag aT aN aF)] H := hP
  have hD : va_D A [(aw, kcI cI 2179 fw), (aP, .inl (cB, 400, .inl ft)), (h, oX11 0 aw ai ab ac hi re aP 0 0 ta be de fa a5 sp av an ak ne aW aC ag aT aN aF)] := hD
  refine lv_aload_n hx hb dX11_spies_4 rfl (lv_at hl 0 rfl) ?_
  refine lv_aload_n hx hb dX11_spies_5 rfl (lv_at hl 0 rfl) ?_
  refine va_get (D := D) (ci := 10) (v := .int ta) (C := RX11) (T := TX11) (N := 26) hx hb hts iG_X11 hown hK hP 2 rfl rfl 10 (by decide) (hts _ w18_6) (fun _ h9 => h9) rfl dX11_spies_6 ?_
  refine lv_iconst (v := 2) hx hb dX11_spies_9 (by decide) ?_
  refine lv_irem hx hb dX11_spies_10 (by decide) ?_
  refine lv_topi (fun x1 ex1 => ?_)
  have k2 : Rg x1 0 1 := rg_rem ex1 H_ta (rg_lit (n := 2) (by decide)) (by decide)
  refine k_join (hd := 30) (cells2 := 0) (slots2 := 0) (fun (_ : Unit) => [.ref h]) (fun (_ : Unit) (H : Heap) (locs : List Loc) (ls : Array Slot) => (F_r_spies ta.toInt (gT fw) (gT ft) = F_r_spies_j1 ta.toInt) ∧ va_P D vwCl [(aw, kcI cI 2179 fw), (aP, .inl (cB, 400, .inl ft)), (h, oX11 0 aw ai ab ac hi re aP 0 0 ta be de fa a5 sp av an ak ne aW aC ag aT aN aF)] H ∧ va_D A [(aw, kcI cI 2179 fw), (aP, .inl (cB, 400, .inl ft)), (h, oX11 0 aw ai ab ac hi re aP 0 0 ta be de fa a5 sp av an ak ne aW aC ag aT aN aF)] ∧ va_S A s.heap H locs ∧ lv_has ls 7 [(0, .ref h)]) (fun u H locs ls hI => ?_) (fun hJ30 => ?_)
  · skip
    clear hP hD hS hl
    obtain ⟨hF1, hP, hD, hS, hl⟩ := hI
    have hP : va_P D vwCl [(aw, kcI cI 2179 fw), (aP, .inl (cB, 400, .inl ft)), (h, oX11 0 aw ai ab ac hi re aP 0 0 ta be de fa a5 sp av an ak ne aW aC ag aT aN aF)] H := hP
    have hD : va_D A [(aw, kcI cI 2179 fw), (aP, .inl (cB, 400, .inl ft)), (h, oX11 0 aw ai ab ac hi re aP 0 0 ta be de fa a5 sp av an ak ne aW aC ag aT aN aF)] := hD
    have hl : lv_has ls 7 [(0, .ref h)] := hl
    show W _ _ _ _ _ _ _ _ _ _ _ _ _ _ _ (F0 m 30 ls [.ref h])
    refine lv_iconst (v := 1) hx hb dX11_spies_30 (by decide) ?_
    refine lv_goto (tgt := 35) hx hb dX11_spies_31 (by decide) ?_
    refine lv_iconst (v := 1) hx hb dX11_spies_35 (by decide) ?_
    refine kcalli (wc := [(h, oX11 0 aw ai ab ac hi re aP 0 0 ta be de fa a5 sp av an ak ne aW aC ag aT aN aF)]) (wr := [(aw, kcI cI 2179 fw), (aP, .inl (cB, 400, .inl ft))]) hP hD hS hA [2] [0, 1] rfl rfl (by decide) (by decide) (by decide) (fun hPc hDc hFc => va_runV (As := [.int 1, .int 1]) (rest := []) ⟨hx, hb, hml, hown, hts⟩ (r_throwsIf1_1 l D cI cJ cB cC h 0 aw ai ab ac hi re aP 0 0 ta be de fa a5 sp av an ak ne aW aC ag aT aN aF 1 H.size) (cwV 2 hts gX11_spies_X11_throwsIf rfl rfl rfl ⟨rfl, hdX11_throwsIf⟩ ⟨Nat.le_of_ble_eq_true rfl, Nat.le_of_ble_eq_true rfl⟩) ⟨kBlind, va_recv hK hPc (ci := 10) (q0 := 0) rfl rfl, fun U hU hW => ⟨rfl, by rw [hU], hN.warm hW, hE.pass hS hFc hW hU, by rw [hU]; exact hPc, va_K.moved hW.alike hK, hDc⟩⟩ rfl rfl hl.1 rfl (lv_room (Nat.le_of_ble_eq_true rfl)) dX11_spies_36 ⟨Nat.le_of_ble_eq_true rfl, Nat.le_of_ble_eq_true rfl⟩) (fun r13 u H locs hw hP hD hS => ?_)
    obtain ⟨x14, rfl⟩ : ∃ z, z = u := ⟨_, rfl⟩
    have hP : va_P D vwCl [(aw, kcI cI 2179 fw), (aP, .inl (cB, 400, .inl ft)), (h, oX11 x14 aw ai ab ac hi re aP 0 0 ta be de fa a5 sp av an ak ne aW aC ag aT aN aF)] H := hP
    have hD : va_D A [(aw, kcI cI 2179 fw), (aP, .inl (cB, 400, .inl ft)), (h, oX11 x14 aw ai ab ac hi re aP 0 0 ta be de fa a5 sp av an ak ne aW aC ag aT aN aF)] := hD
    obtain ⟨k15, k16⟩ := hw
    refine lv_if_eq (tgt := 44) hx hb dX11_spies_39 (by decide) (fun c17 => absurd c17 (rg_neq k15 (rg_lit (n := 0) (by decide)) (by decide))) (fun _ => ?_)
    refine lv_iconst (v := 0) hx hb dX11_spies_42 (by decide) ?_
    have hP9 := hP.sub (ws' := [(h, oX11 x14 aw ai ab ac hi re aP 0 0 ta be de fa a5 sp av an ak ne aW aC ag aT aN aF), (aw, kcI cI 2179 fw), (aP, .inl (cB, 400, .inl ft))]) [2, 0, 1] rfl
    have hD9 := hD.sub (ws' := [(h, oX11 x14 aw ai ab ac hi re aP 0 0 ta be de fa a5 sp av an ak ne aW aC ag aT aN aF), (aw, kcI cI 2179 fw), (aP, .inl (cB, 400, .inl ft))]) [2, 0, 1] (by decide) rfl
    exact W.iret (v := 0) hx hb hr (fun t ht hW => ⟨⟨0, (x14, ta), rfl, ⟨H_ta, (hF1.trans (kC_eq k16 rfl))⟩, by rw [ht]; exact hP9, va_K.moved hW.alike hK, hD9⟩, hS.F ht⟩) hS.2.2 dX11_spies_43
  refine lv_if_ne (tgt := 30) hx hb dX11_spies_11 (by decide) (fun c18 => ?_) (fun c18 => ?_)
  · skip
    have k19 : Rg x1 1 1 := rg_n1 (neI c18) k2 (rg_lit (n := 0) (by decide)) (by decide)
    exact hJ30 () _ _ _ ⟨(kLet_eq (ke_rem ex1) (kif_f (neI c18) rfl)), hP.sub (ws' := [(aw, kcI cI 2179 fw), (aP, .inl (cB, 400, .inl ft)), (h, oX11 0 aw ai ab ac hi re aP 0 0 ta be de fa a5 sp av an ak ne aW aC ag aT aN aF)]) [0, 1, 2] rfl, hD.sub (ws' := [(aw, kcI cI 2179 fw), (aP, .inl (cB, 400, .inl ft)), (h, oX11 0 aw ai ab ac hi re aP 0 0 ta be de fa a5 sp av an ak ne aW aC ag aT aN aF)]) [0, 1, 2] (by decide) rfl, hS, lv_sub (l' := [(0, .ref h)]) hl [0] rfl⟩
  · skip
    have k20 : Rg x1 0 0 := rg_q1 (eqI c18) k2 (rg_lit (n := 0) (by decide)) (by decide)
    refine lv_aload_n hx hb dX11_spies_14 rfl (lv_at hl 0 rfl) ?_
    refine va_get (D := D) (ci := 10) (v := .int ta) (C := RX11) (T := TX11) (N := 26) hx hb hts iG_X11 hown hK hP 2 rfl rfl 10 (by decide) (hts _ w18_6) (fun _ h9 => h9) rfl dX11_spies_15 ?_
    refine lv_iconst (v := 2) hx hb dX11_spies_18 (by decide) ?_
    refine lv_idiv hx hb dX11_spies_19 (by decide) ?_
    refine lv_topi (fun x21 ex21 => ?_)
    have k22 : Rg x21 0 200 := rg_div ex21 H_ta (rg_lit (n := 2) (by decide)) (by decide)
    refine lv_aload_n hx hb dX11_spies_20 rfl (lv_at hl 0 rfl) ?_
    refine va_get (D := D) (ci := 10) (v := .ref aw) (C := RX11) (T := TX11) (N := 26) hx hb hts iG_X11 hown hK hP 2 rfl rfl 1 (by decide) (hts _ w5_3) (fun _ h9 => h9) rfl dX11_spies_21 ?_
    refine lv_bipush (v := 10) hx hb dX11_spies_24 (by decide) ?_
    refine va_iald hx hb hK hP 0 0 rfl rfl (rg_in (rg_lit (n := 10) (by decide)) (by decide)) dX11_spies_26 ?_
    refine lv_topi (fun x23 ex23 => ?_)
    have k24 : Rg x23 0 30 := wW_10 H_fw_W ex23
    refine lv_icmp_le (tgt := 34) hx hb dX11_spies_27 (by decide) (fun c25 => ?_) (fun c25 => ?_)
    · skip
      have k26 : Rg x21 0 30 := rg_e1 (leI c25) k22 k24 (by decide)
      refine lv_iconst (v := 0) hx hb dX11_spies_34 (by decide) ?_
      refine lv_iconst (v := 1) hx hb dX11_spies_35 (by decide) ?_
      refine kpurei (wc := [(h, oX11 0 aw ai ab ac hi re aP 0 0 ta be de fa a5 sp av an ak ne aW aC ag aT aN aF)]) hP hD hS hA [2] rfl (by decide) (fun hPc hDc hFc => va_runV (As := [.int 0, .int 1]) (rest := []) ⟨hx, hb, hml, hown, hts⟩ (r_throwsIf0_1 l D cI cJ cB cC h 0 aw ai ab ac hi re aP 0 0 ta be de fa a5 sp av an ak ne aW aC ag aT aN aF 1 H.size) (cwV 2 hts gX11_spies_X11_throwsIf rfl rfl rfl ⟨rfl, hdX11_throwsIf⟩ ⟨Nat.le_of_ble_eq_true rfl, Nat.le_of_ble_eq_true rfl⟩) ⟨kBlind, va_recv hK hPc (ci := 10) (q0 := 0) rfl rfl, fun U hU hW => ⟨rfl, by rw [hU], hN.warm hW, hE.pass hS hFc hW hU, by rw [hU]; exact hPc, va_K.moved hW.alike hK, hDc⟩⟩ rfl rfl hl.1 rfl (lv_room (Nat.le_of_ble_eq_true rfl)) dX11_spies_36 ⟨Nat.le_of_ble_eq_true rfl, Nat.le_of_ble_eq_true rfl⟩) (fun r27 u H locs hw hP hS => ?_)
      obtain ⟨k28, k29⟩ := hw
      refine lv_if_eq (tgt := 44) hx hb dX11_spies_39 (by decide) (fun _ => ?_) (fun c30 => absurd (rg_eq k28 (rg_lit (n := 0) (by decide)) (by decide)) c30)
      refine lv_iconst (v := 0) hx hb dX11_spies_44 (by decide) ?_
      refine lv_istore_n (lv' := [(1, .int 0), (0, .ref h)]) hx hb dX11_spies_45 rfl hl (by decide) rfl (fun ls hl => ?_)
      refine lv_iconst (v := 0) hx hb dX11_spies_46 (by decide) ?_
      refine lv_istore_n (lv' := [(2, .int 0), (1, .int 0), (0, .ref h)]) hx hb dX11_spies_47 rfl hl (by decide) rfl (fun ls hl => ?_)
      refine lv_iconst (v := 0) hx hb dX11_spies_48 (by decide) ?_
      refine lv_istore_n (lv' := [(3, .int 0), (2, .int 0), (1, .int 0), (0, .ref h)]) hx hb dX11_spies_49 rfl hl (by decide) rfl (fun ls hl => ?_)
      refine k_loop (hd := 50) (fun (u : Int32 × Int32 × Int32) => match u with | (y9518, y9519, y9520) => (30 - (y9518).toInt).toNat) (fun (u : Int32 × Int32 × Int32) (H : Heap) (locs : List Loc) (ls : Array Slot) => match u with | (y9518, y9519, y9520) => (F_r_spies ta.toInt (gT fw) (gT ft) = F_r_spies_l2 ta.toInt (gT fw) (gT ft) x21.toInt (y9518.toInt, y9519.toInt, y9520.toInt)) ∧ Rg y9518 0 30 ∧ va_P D vwCl [(aw, kcI cI 2179 fw), (aP, .inl (cB, 400, .inl ft)), (h, oX11 0 aw ai ab ac hi re aP 0 0 ta be de fa a5 sp av an ak ne aW aC ag aT aN aF)] H ∧ va_D A [(aw, kcI cI 2179 fw), (aP, .inl (cB, 400, .inl ft)), (h, oX11 0 aw ai ab ac hi re aP 0 0 ta be de fa a5 sp av an ak ne aW aC ag aT aN aF)] ∧ va_S A s.heap H locs ∧ lv_has ls 7 [(3, .int y9518), (2, .int y9519), (1, .int y9520), (0, .ref h)]) ((0 : Int32), (0 : Int32), (0 : Int32)) ⟨(kLet_eq (ke_rem ex1) (kif_t (eqI c18) (kLet_eq (ke_div ex21) (kLet_eq (ke_ld ex23) (kif_t (leI c25) (kLet_eq (k29).symm rfl)))))), (rg_w (rg_lit (n := 0) (by decide)) (by decide)), hP.sub (ws' := [(aw, kcI cI 2179 fw), (aP, .inl (cB, 400, .inl ft)), (h, oX11 0 aw ai ab ac hi re aP 0 0 ta be de fa a5 sp av an ak ne aW aC ag aT aN aF)]) [0, 1, 2] rfl, hD.sub (ws' := [(aw, kcI cI 2179 fw), (aP, .inl (cB, 400, .inl ft)), (h, oX11 0 aw ai ab ac hi re aP 0 0 ta be de fa a5 sp av an ak ne aW aC ag aT aN aF)]) [0, 1, 2] (by decide) rfl, hS, lv_sub (l' := [(3, .int 0), (2, .int 0), (1, .int 0), (0, .ref h)]) hl [0, 1, 2, 3] rfl⟩ (fun u H locs ls hI ih9521 => ?_)
      clear hP hD hS hl
      obtain ⟨y9518, y9519, y9520⟩ := u
      obtain ⟨hF2, hy9518, hP, hD, hS, hl⟩ := hI
      have hP : va_P D vwCl [(aw, kcI cI 2179 fw), (aP, .inl (cB, 400, .inl ft)), (h, oX11 0 aw ai ab ac hi re aP 0 0 ta be de fa a5 sp av an ak ne aW aC ag aT aN aF)] H := hP
      have hD : va_D A [(aw, kcI cI 2179 fw), (aP, .inl (cB, 400, .inl ft)), (h, oX11 0 aw ai ab ac hi re aP 0 0 ta be de fa a5 sp av an ak ne aW aC ag aT aN aF)] := hD
      have hl : lv_has ls 7 [(3, .int y9518), (2, .int y9519), (1, .int y9520), (0, .ref h)] := hl
      refine lv_iload_n hx hb dX11_spies_50 rfl (lv_at hl 0 rfl) ?_
      refine lv_aload_n hx hb dX11_spies_51 rfl (lv_at hl 3 rfl) ?_
      refine va_get (D := D) (ci := 10) (v := .int ta) (C := RX11) (T := TX11) (N := 26) hx hb hts iG_X11 hown hK hP 2 rfl rfl 10 (by decide) (hts _ w18_6) (fun _ h9 => h9) rfl dX11_spies_52 ?_
      refine lv_iconst (v := 2) hx hb dX11_spies_55 (by decide) ?_
      refine lv_idiv hx hb dX11_spies_56 (by decide) ?_
      refine lv_topi (fun x9522 ex9522 => ?_)
      obtain rfl : x21 = x9522 := ex21.trans ex9522.symm
      refine lv_icmp_ge (tgt := 169) hx hb dX11_spies_57 (by decide) (fun c9523 => ?_) (fun c9523 => ?_)
      · skip
        refine lv_iload_n hx hb dX11_spies_169 rfl (lv_at hl 2 rfl) ?_
        refine lv_iload_n hx hb dX11_spies_170 rfl (lv_at hl 1 rfl) ?_
        refine lv_iand hx hb dX11_spies_171 ?_
        refine lv_topi (fun x9524 ex9524 => ?_)
        refine k_join (hd := 180) (cells2 := 0) (slots2 := 0) (fun (z9528 : Int32) => [.int z9528]) (fun (z9528 : Int32) (H : Heap) (locs : List Loc) (ls : Array Slot) => (F_r_spies_l2_s ta.toInt (gT fw) (gT ft) x21.toInt (y9518.toInt, y9519.toInt, y9520.toInt) = F_r_spies_j3 ta.toInt z9528.toInt) ∧ va_P D vwCl [(aw, kcI cI 2179 fw), (aP, .inl (cB, 400, .inl ft)), (h, oX11 0 aw ai ab ac hi re aP 0 0 ta be de fa a5 sp av an ak ne aW aC ag aT aN aF)] H ∧ va_D A [(aw, kcI cI 2179 fw), (aP, .inl (cB, 400, .inl ft)), (h, oX11 0 aw ai ab ac hi re aP 0 0 ta be de fa a5 sp av an ak ne aW aC ag aT aN aF)] ∧ va_S A s.heap H locs ∧ lv_has ls 7 [(3, .int y9518), (2, .int y9519), (1, .int y9520), (0, .ref h)]) (fun u H locs ls hI => ?_) (fun hJ180 => ?_)
        · skip
          clear hP hD hS hl
          obtain ⟨z9528, rfl⟩ : ∃ z, z = u := ⟨_, rfl⟩
          obtain ⟨hF3, hP, hD, hS, hl⟩ := hI
          have hP : va_P D vwCl [(aw, kcI cI 2179 fw), (aP, .inl (cB, 400, .inl ft)), (h, oX11 0 aw ai ab ac hi re aP 0 0 ta be de fa a5 sp av an ak ne aW aC ag aT aN aF)] H := hP
          have hD : va_D A [(aw, kcI cI 2179 fw), (aP, .inl (cB, 400, .inl ft)), (h, oX11 0 aw ai ab ac hi re aP 0 0 ta be de fa a5 sp av an ak ne aW aC ag aT aN aF)] := hD
          have hl : lv_has ls 7 [(3, .int y9518), (2, .int y9519), (1, .int y9520), (0, .ref h)] := hl
          show W _ _ _ _ _ _ _ _ _ _ _ _ _ _ _ (F0 m 180 ls [.int z9528])
          have hP9 := hP.sub (ws' := [(h, oX11 0 aw ai ab ac hi re aP 0 0 ta be de fa a5 sp av an ak ne aW aC ag aT aN aF), (aw, kcI cI 2179 fw), (aP, .inl (cB, 400, .inl ft))]) [2, 0, 1] rfl
          have hD9 := hD.sub (ws' := [(h, oX11 0 aw ai ab ac hi re aP 0 0 ta be de fa a5 sp av an ak ne aW aC ag aT aN aF), (aw, kcI cI 2179 fw), (aP, .inl (cB, 400, .inl ft))]) [2, 0, 1] (by decide) rfl
          exact W.iret (v := z9528) hx hb hr (fun t ht hW => ⟨⟨z9528, ((0 : Int32), ta), rfl, ⟨H_ta, (hF2.trans (kIter_out (hF3.trans rfl)))⟩, by rw [ht]; exact hP9, va_K.moved hW.alike hK, hD9⟩, hS.F ht⟩) hS.2.2 dX11_spies_180
        refine lv_if_ne (tgt := 179) hx hb dX11_spies_172 (by decide) (fun c9529 => ?_) (fun c9529 => ?_)
        · skip
          refine lv_iconst (v := (-1)) hx hb dX11_spies_179 (by decide) ?_
          exact hJ180 ((-1 : Int32)) _ _ _ ⟨(kC_eq rfl (kC_eq rfl (kif_t (leI c9523) (kLet_eq (ke_and ex9524) (kif_f (neI c9529) rfl))))), hP.sub (ws' := [(aw, kcI cI 2179 fw), (aP, .inl (cB, 400, .inl ft)), (h, oX11 0 aw ai ab ac hi re aP 0 0 ta be de fa a5 sp av an ak ne aW aC ag aT aN aF)]) [0, 1, 2] rfl, hD.sub (ws' := [(aw, kcI cI 2179 fw), (aP, .inl (cB, 400, .inl ft)), (h, oX11 0 aw ai ab ac hi re aP 0 0 ta be de fa a5 sp av an ak ne aW aC ag aT aN aF)]) [0, 1, 2] (by decide) rfl, hS, lv_sub (l' := [(3, .int y9518), (2, .int y9519), (1, .int y9520), (0, .ref h)]) hl [0, 1, 2, 3] rfl⟩
        · skip
          have k9530 : Rg x9524 0 0 := rg_q1 (eqI c9529) (rg_any x9524) (rg_lit (n := 0) (by decide)) (by decide)
          refine lv_iload_n hx hb dX11_spies_175 rfl (lv_at hl 2 rfl) ?_
          refine lv_goto (tgt := 180) hx hb dX11_spies_176 (by decide) ?_
          exact hJ180 (y9520) _ _ _ ⟨(kC_eq rfl (kC_eq rfl (kif_t (leI c9523) (kLet_eq (ke_and ex9524) (kif_t (eqI c9529) rfl))))), hP.sub (ws' := [(aw, kcI cI 2179 fw), (aP, .inl (cB, 400, .inl ft)), (h, oX11 0 aw ai ab ac hi re aP 0 0 ta be de fa a5 sp av an ak ne aW aC ag aT aN aF)]) [0, 1, 2] rfl, hD.sub (ws' := [(aw, kcI cI 2179 fw), (aP, .inl (cB, 400, .inl ft)), (h, oX11 0 aw ai ab ac hi re aP 0 0 ta be de fa a5 sp av an ak ne aW aC ag aT aN aF)]) [0, 1, 2] (by decide) rfl, hS, lv_sub (l' := [(3, .int y9518), (2, .int y9519), (1, .int y9520), (0, .ref h)]) hl [0, 1, 2, 3] rfl⟩
      · skip
        have k9531 : Rg y9518 0 29 := rg_l1 (nleI c9523) hy9518 k26 (by decide)
        have k9532 : Rg x21 1 30 := rg_l2 (nleI c9523) hy9518 k26 (by decide)
        refine lv_aload_n hx hb dX11_spies_60 rfl (lv_at hl 3 rfl) ?_
        refine va_get (D := D) (ci := 10) (v := .ref aP) (C := RX11) (T := TX11) (N := 26) hx hb hts iG_X11 hown hK hP 2 rfl rfl 7 (by decide) (hts _ w5_8) (fun _ h9 => h9) rfl dX11_spies_61 ?_
        refine lv_iconst (v := 2) hx hb dX11_spies_64 (by decide) ?_
        refine lv_iload_n hx hb dX11_spies_65 rfl (lv_at hl 0 rfl) ?_
        refine lv_imul hx hb dX11_spies_66 ?_
        refine lv_topi (fun x9533 ex9533 => ?_)
        have k9534 : Rg x9533 0 58 := rg_mul ex9533 (rg_lit (n := 2) (by decide)) k9531 (by decide)
        refine va_bald hx hb hK hP 1 2 rfl rfl (rg_in k9534 (by decide)) dX11_spies_67 ?_
        refine lv_topi (fun x9535 ex9535 => ?_)
        refine lv_sipush (v := 255) hx hb dX11_spies_68 (by decide) ?_
        refine lv_iand hx hb dX11_spies_71 ?_
        refine lv_topi (fun x9536 ex9536 => ?_)
        have k9537 : Rg x9536 0 255 := rg_andr ex9536 (rg_lit (n := 255) (by decide)) (by decide)
        refine lv_bipush (v := 8) hx hb dX11_spies_72 (by decide) ?_
        refine lv_ishl hx hb dX11_spies_74 ?_
        refine lv_topi (fun x9538 ex9538 => ?_)
        have k9539 : Rg x9538 0 65280 := rg_shlc 8 ex9538 k9537 (by decide)
        refine lv_aload_n hx hb dX11_spies_75 rfl (lv_at hl 3 rfl) ?_
        refine va_get (D := D) (ci := 10) (v := .ref aP) (C := RX11) (T := TX11) (N := 26) hx hb hts iG_X11 hown hK hP 2 rfl rfl 7 (by decide) (hts _ w5_8) (fun _ h9 => h9) rfl dX11_spies_76 ?_
        refine lv_iconst (v := 2) hx hb dX11_spies_79 (by decide) ?_
        refine lv_iload_n hx hb dX11_spies_80 rfl (lv_at hl 0 rfl) ?_
        refine lv_imul hx hb dX11_spies_81 ?_
        refine lv_topi (fun x9540 ex9540 => ?_)
        have k9541 : Rg x9540 0 58 := rg_mul ex9540 (rg_lit (n := 2) (by decide)) k9531 (by decide)
        refine lv_iconst (v := 1) hx hb dX11_spies_82 (by decide) ?_
        refine lv_iadd hx hb dX11_spies_83 ?_
        refine lv_topi (fun x9542 ex9542 => ?_)
        have k9543 : Rg x9542 1 59 := rg_add ex9542 k9541 (rg_lit (n := 1) (by decide)) (by decide)
        refine va_bald hx hb hK hP 1 2 rfl rfl (rg_in k9543 (by decide)) dX11_spies_84 ?_
        refine lv_topi (fun x9544 ex9544 => ?_)
        refine lv_sipush (v := 255) hx hb dX11_spies_85 (by decide) ?_
        refine lv_iand hx hb dX11_spies_88 ?_
        refine lv_topi (fun x9545 ex9545 => ?_)
        have k9546 : Rg x9545 0 255 := rg_andr ex9545 (rg_lit (n := 255) (by decide)) (by decide)
        refine lv_ior hx hb dX11_spies_89 ?_
        refine lv_topi (fun x9547 ex9547 => ?_)
        have k9548 : Rg x9547 0 65535 := rg_or 16 ex9547 k9539 k9546 (by decide)
        refine lv_istore (lv' := [(4, .int x9547), (3, .int y9518), (2, .int y9519), (1, .int y9520), (0, .ref h)]) hx hb dX11_spies_90 hl (by decide) rfl (fun ls hl => ?_)
        refine lv_iconst (v := 0) hx hb dX11_spies_92 (by decide) ?_
        refine lv_istore (lv' := [(5, .int 0), (4, .int x9547), (3, .int y9518), (2, .int y9519), (1, .int y9520), (0, .ref h)]) hx hb dX11_spies_93 hl (by decide) rfl (fun ls hl => ?_)
        refine k_loop (hd := 95) (fun (u : Int32 × Int32 × Int32) => match u with | (y10088, y10089, y10090) => (12 - (y10088).toInt).toNat) (fun (u : Int32 × Int32 × Int32) (H : Heap) (locs : List Loc) (ls : Array Slot) => match u with | (y10088, y10089, y10090) => (F_r_spies_l2_s ta.toInt (gT fw) (gT ft) x21.toInt (y9518.toInt, y9519.toInt, y9520.toInt) = F_r_spies_l4 (gT fw) y9518.toInt x9547.toInt (y10088.toInt, y10089.toInt, y10090.toInt)) ∧ Rg y10088 0 12 ∧ va_P D vwCl [(aw, kcI cI 2179 fw), (aP, .inl (cB, 400, .inl ft)), (h, oX11 0 aw ai ab ac hi re aP 0 0 ta be de fa a5 sp av an ak ne aW aC ag aT aN aF)] H ∧ va_D A [(aw, kcI cI 2179 fw), (aP, .inl (cB, 400, .inl ft)), (h, oX11 0 aw ai ab ac hi re aP 0 0 ta be de fa a5 sp av an ak ne aW aC ag aT aN aF)] ∧ va_S A s.heap H locs ∧ lv_has ls 7 [(5, .int y10088), (4, .int x9547), (3, .int y9518), (2, .int y10089), (1, .int y10090), (0, .ref h)]) ((0 : Int32), y9519, y9520) ⟨(kC_eq rfl (kC_eq rfl (kif_f (xF_le c9523) (kLet_eq (ti_mul ex9533 (rg_lit (n := 2) (by decide)) k9531 (by decide) rfl rfl) (kLet_eq (ke_ld ex9535) (kLet_eq (ke_and ex9536) (kLet_eq (ke_shl ex9538) (kLet_eq (ti_mul ex9540 (rg_lit (n := 2) (by decide)) k9531 (by decide) rfl rfl) (kLet_eq (ti_add ex9542 k9541 (rg_lit (n := 1) (by decide)) (by decide) rfl rfl) (kLet_eq (ke_ld ex9544) (kLet_eq (ke_and ex9545) (kLet_eq (ke_or ex9547) rfl)))))))))))), (rg_w (rg_lit (n := 0) (by decide)) (by decide)), hP.sub (ws' := [(aw, kcI cI 2179 fw), (aP, .inl (cB, 400, .inl ft)), (h, oX11 0 aw ai ab ac hi re aP 0 0 ta be de fa a5 sp av an ak ne aW aC ag aT aN aF)]) [0, 1, 2] rfl, hD.sub (ws' := [(aw, kcI cI 2179 fw), (aP, .inl (cB, 400, .inl ft)), (h, oX11 0 aw ai ab ac hi re aP 0 0 ta be de fa a5 sp av an ak ne aW aC ag aT aN aF)]) [0, 1, 2] (by decide) rfl, hS, lv_sub (l' := [(5, .int 0), (4, .int x9547), (3, .int y9518), (2, .int y9519), (1, .int y9520), (0, .ref h)]) hl [0, 1, 2, 3, 4, 5] rfl⟩ (fun u H locs ls hI ih10091 => ?_)
        clear hP hD hS hl
        obtain ⟨y10088, y10089, y10090⟩ := u
        obtain ⟨hF4, hy10088, hP, hD, hS, hl⟩ := hI
        have hP : va_P D vwCl [(aw, kcI cI 2179 fw), (aP, .inl (cB, 400, .inl ft)), (h, oX11 0 aw ai ab ac hi re aP 0 0 ta be de fa a5 sp av an ak ne aW aC ag aT aN aF)] H := hP
        have hD : va_D A [(aw, kcI cI 2179 fw), (aP, .inl (cB, 400, .inl ft)), (h, oX11 0 aw ai ab ac hi re aP 0 0 ta be de fa a5 sp av an ak ne aW aC ag aT aN aF)] := hD
        have hl : lv_has ls 7 [(5, .int y10088), (4, .int x9547), (3, .int y9518), (2, .int y10089), (1, .int y10090), (0, .ref h)] := hl
        refine lv_iload hx hb dX11_spies_95 (lv_at hl 0 rfl) ?_
        refine lv_aload_n hx hb dX11_spies_97 rfl (lv_at hl 5 rfl) ?_
        refine kpurei (wc := [(h, oX11 0 aw ai ab ac hi re aP 0 0 ta be de fa a5 sp av an ak ne aW aC ag aT aN aF), (aw, kcI cI 2179 fw)]) hP hD hS hA [2, 0] rfl (by decide) (fun hPc hDc hFc => va_runV (As := []) (rest := [.int y10088]) ⟨hx, hb, hml, hown, hts⟩ (r_shirts l D cI cJ cB cC h 0 aw ai ab ac hi re aP 0 0 ta be de fa a5 sp av an ak ne aW aC ag aT aN aF fw H.size H_fw_W) (cwV 0 hts gX11_spies_X11_shirts rfl rfl rfl ⟨rfl, hdX11_shirts⟩ ⟨Nat.le_of_ble_eq_true rfl, Nat.le_of_ble_eq_true rfl⟩) ⟨kBlind, va_recv hK hPc (ci := 10) (q0 := 0) rfl rfl, fun U hU hW => ⟨rfl, by rw [hU], hN.warm hW, hE.pass hS hFc hW hU, by rw [hU]; exact hPc, va_K.moved hW.alike hK, hDc⟩⟩ rfl rfl hl.1 rfl (lv_room (Nat.le_of_ble_eq_true rfl)) dX11_spies_98 ⟨Nat.le_of_ble_eq_true rfl, Nat.le_of_ble_eq_true rfl⟩) (fun r10092 u H locs hw hP hS => ?_)
        obtain ⟨k10093, k10094, k10095⟩ := hw
        refine lv_icmp_ge (tgt := 163) hx hb dX11_spies_101 (by decide) (fun c10096 => ?_) (fun c10096 => ?_)
        · skip
          obtain ⟨x10097, ex10097⟩ : ∃ y : Int32, y = y9518 + 1 := ⟨_, rfl⟩
          refine lv_iinc (v := x10097) (lv' := [(3, .int x10097), (5, .int y10088), (4, .int x9547), (2, .int y10089), (1, .int y10090), (0, .ref h)]) hx hb dX11_spies_163 hl (k := 2) rfl (by rw [ex10097]; rfl) (by decide) rfl (fun ls hl => ?_)
          have k10098 : Rg x10097 1 30 := rg_add ex10097 k9531 (rg_lit (n := 1) (by decide)) (by decide)
          refine lv_goto (tgt := 50) hx hb dX11_spies_166 (by decide) ?_
          exact ih9521 (x10097, y10089, y10090) _ _ _ (by show (30 - (x10097).toInt).toNat < (30 - (y9518).toInt).toNat; exact mu_up ex10097 k9531 k10098 (by decide)) ⟨(hF2.trans (kIter_go (hF4.trans (kIter_out (kC_eq rfl (kC_eq rfl (kLet_eq (k10095).symm (kif_t (leI c10096) (kLet_eq (ti_add ex10097 k9531 (rg_lit (n := 1) (by decide)) (by decide) rfl rfl) rfl))))))))), (rg_w k10098 (by decide)), hP.sub (ws' := [(aw, kcI cI 2179 fw), (aP, .inl (cB, 400, .inl ft)), (h, oX11 0 aw ai ab ac hi re aP 0 0 ta be de fa a5 sp av an ak ne aW aC ag aT aN aF)]) [0, 1, 2] rfl, hD.sub (ws' := [(aw, kcI cI 2179 fw), (aP, .inl (cB, 400, .inl ft)), (h, oX11 0 aw ai ab ac hi re aP 0 0 ta be de fa a5 sp av an ak ne aW aC ag aT aN aF)]) [0, 1, 2] (by decide) rfl, hS, lv_sub (l' := [(3, .int x10097), (2, .int y10089), (1, .int y10090), (0, .ref h)]) hl [0, 3, 4, 5] rfl⟩
        · skip
          have k10099 : Rg y10088 0 11 := rg_l1 (nleI c10096) hy10088 k10094 (by decide)
          have k10100 : Rg r10092 1 12 := rg_l2 (nleI c10096) hy10088 k10094 (by decide)
          refine lv_aload_n hx hb dX11_spies_104 rfl (lv_at hl 5 rfl) ?_
          refine va_get (D := D) (ci := 10) (v := .ref aw) (C := RX11) (T := TX11) (N := 26) hx hb hts iG_X11 hown hK hP 2 rfl rfl 1 (by decide) (hts _ w5_3) (fun _ h9 => h9) rfl dX11_spies_105 ?_
          refine lv_sipush (v := 145) hx hb dX11_spies_108 (by decide) ?_
          refine lv_bipush (v := 12) hx hb dX11_spies_111 (by decide) ?_
          refine lv_iload_n hx hb dX11_spies_113 rfl (lv_at hl 2 rfl) ?_
          refine lv_imul hx hb dX11_spies_114 ?_
          refine lv_topi (fun x10101 ex10101 => ?_)
          have k10102 : Rg x10101 0 348 := rg_mul ex10101 (rg_lit (n := 12) (by decide)) k9531 (by decide)
          refine lv_iadd hx hb dX11_spies_115 ?_
          refine lv_topi (fun x10103 ex10103 => ?_)
          have k10104 : Rg x10103 145 493 := rg_add ex10103 (rg_lit (n := 145) (by decide)) k10102 (by decide)
          refine lv_iload hx hb dX11_spies_116 (lv_at hl 0 rfl) ?_
          refine lv_iadd hx hb dX11_spies_118 ?_
          refine lv_topi (fun x10105 ex10105 => ?_)
          have k10106 : Rg x10105 145 504 := rg_add ex10105 k10104 k10099 (by decide)
          refine va_iald hx hb hK hP 0 0 rfl rfl (rg_in k10106 (by decide)) dX11_spies_119 ?_
          refine lv_topi (fun x10107 ex10107 => ?_)
          refine lv_istore (lv' := [(6, .int x10107), (5, .int y10088), (4, .int x9547), (3, .int y9518), (2, .int y10089), (1, .int y10090), (0, .ref h)]) hx hb dX11_spies_120 hl (by decide) rfl (fun ls hl => ?_)
          refine lv_iload hx hb dX11_spies_122 (lv_at hl 0 rfl) ?_
          refine k_join (hd := 157) (cells2 := 0) (slots2 := 0) (fun (u : Int32 × Int32) => match u with | (y10123, y10124) => []) (fun (u : Int32 × Int32) (H : Heap) (locs : List Loc) (ls : Array Slot) => match u with | (y10123, y10124) => (F_r_spies_l4_s (gT fw) y9518.toInt x9547.toInt (y10088.toInt, y10089.toInt, y10090.toInt) = F_r_spies_j5 y10088.toInt y10123.toInt y10124.toInt) ∧ va_P D vwCl [(aw, kcI cI 2179 fw), (aP, .inl (cB, 400, .inl ft)), (h, oX11 0 aw ai ab ac hi re aP 0 0 ta be de fa a5 sp av an ak ne aW aC ag aT aN aF)] H ∧ va_D A [(aw, kcI cI 2179 fw), (aP, .inl (cB, 400, .inl ft)), (h, oX11 0 aw ai ab ac hi re aP 0 0 ta be de fa a5 sp av an ak ne aW aC ag aT aN aF)] ∧ va_S A s.heap H locs ∧ lv_has ls 7 [(6, .int x10107), (5, .int y10088), (4, .int x9547), (3, .int y9518), (2, .int y10123), (1, .int y10124), (0, .ref h)]) (fun u H locs ls hI => ?_) (fun hJ157 => ?_)
          · skip
            clear hP hD hS hl
            obtain ⟨y10123, y10124⟩ := u
            obtain ⟨hF5, hP, hD, hS, hl⟩ := hI
            have hP : va_P D vwCl [(aw, kcI cI 2179 fw), (aP, .inl (cB, 400, .inl ft)), (h, oX11 0 aw ai ab ac hi re aP 0 0 ta be de fa a5 sp av an ak ne aW aC ag aT aN aF)] H := hP
            have hD : va_D A [(aw, kcI cI 2179 fw), (aP, .inl (cB, 400, .inl ft)), (h, oX11 0 aw ai ab ac hi re aP 0 0 ta be de fa a5 sp av an ak ne aW aC ag aT aN aF)] := hD
            have hl : lv_has ls 7 [(6, .int x10107), (5, .int y10088), (4, .int x9547), (3, .int y9518), (2, .int y10123), (1, .int y10124), (0, .ref h)] := hl
            obtain ⟨x10125, ex10125⟩ : ∃ y : Int32, y = y10088 + 1 := ⟨_, rfl⟩
            refine lv_iinc (v := x10125) (lv' := [(5, .int x10125), (6, .int x10107), (4, .int x9547), (3, .int y9518), (2, .int y10123), (1, .int y10124), (0, .ref h)]) hx hb dX11_spies_157 hl (k := 1) rfl (by rw [ex10125]; rfl) (by decide) rfl (fun ls hl => ?_)
            have k10126 : Rg x10125 1 12 := rg_add ex10125 k10099 (rg_lit (n := 1) (by decide)) (by decide)
            refine lv_goto (tgt := 95) hx hb dX11_spies_160 (by decide) ?_
            exact ih10091 (x10125, y10123, y10124) _ _ _ (by show (12 - (x10125).toInt).toNat < (12 - (y10088).toInt).toNat; exact mu_up ex10125 k10099 k10126 (by decide)) ⟨(hF4.trans (kIter_go (hF5.trans (kLet_eq (ti_add ex10125 k10099 (rg_lit (n := 1) (by decide)) (by decide) rfl rfl) rfl)))), (rg_w k10126 (by decide)), hP.sub (ws' := [(aw, kcI cI 2179 fw), (aP, .inl (cB, 400, .inl ft)), (h, oX11 0 aw ai ab ac hi re aP 0 0 ta be de fa a5 sp av an ak ne aW aC ag aT aN aF)]) [0, 1, 2] rfl, hD.sub (ws' := [(aw, kcI cI 2179 fw), (aP, .inl (cB, 400, .inl ft)), (h, oX11 0 aw ai ab ac hi re aP 0 0 ta be de fa a5 sp av an ak ne aW aC ag aT aN aF)]) [0, 1, 2] (by decide) rfl, hS, lv_sub (l' := [(5, .int x10125), (4, .int x9547), (3, .int y9518), (2, .int y10123), (1, .int y10124), (0, .ref h)]) hl [0, 2, 3, 4, 5, 6] rfl⟩
          refine lv_if_ge (tgt := 130) hx hb dX11_spies_124 (by decide) (fun c10127 => ?_) (fun c10127 => ?_)
          · skip
            have k10128 : Rg x10107 0 2147483647 := rg_e2 (leI c10127) (rg_lit (n := 0) (by decide)) (rg_any x10107) (by decide)
            refine lv_iload hx hb dX11_spies_130 (lv_at hl 2 rfl) ?_
            refine lv_iload hx hb dX11_spies_132 (lv_at hl 1 rfl) ?_
            refine kpurei (wc := []) hP hD hS hA [] rfl (by decide) (fun hPc hDc hFc => va_runS (As := [.int x9547, .int y10088]) (rest := []) ⟨hx, hb, hml, hown, hts⟩ (r_has l D cI cJ cB cC x9547 y10088 H.size) (va_cwS 2 hts gX11_spies_X11_has rfl rfl rfl hdX11_has ⟨Nat.le_of_ble_eq_true rfl, Nat.le_of_ble_eq_true rfl⟩) ⟨kBlind, fun U hU hW => ⟨rfl, by rw [hU], hN.warm hW, hE.pass hS hFc hW hU, by rw [hU]; exact hPc, va_K.moved hW.alike hK, hDc⟩⟩ rfl rfl hl.1 rfl (lv_room (Nat.le_of_ble_eq_true rfl)) dX11_spies_134 ⟨Nat.le_of_ble_eq_true rfl, Nat.le_of_ble_eq_true rfl⟩) (fun r10129 u H locs hw hP hS => ?_)
            obtain ⟨k10130, k10131⟩ := hw
            refine lv_if_eq (tgt := 150) hx hb dX11_spies_137 (by decide) (fun c10132 => ?_) (fun c10132 => ?_)
            · skip
              have k10133 : Rg r10129 0 0 := rg_q1 (eqI c10132) k10130 (rg_lit (n := 0) (by decide)) (by decide)
              refine lv_iload_n hx hb dX11_spies_150 rfl (lv_at hl 4 rfl) ?_
              refine lv_iconst (v := 1) hx hb dX11_spies_151 (by decide) ?_
              refine lv_iload hx hb dX11_spies_152 (lv_at hl 0 rfl) ?_
              refine lv_ishl hx hb dX11_spies_154 ?_
              refine lv_topi (fun x10134 ex10134 => ?_)
              refine lv_ior hx hb dX11_spies_155 ?_
              refine lv_topi (fun x10135 ex10135 => ?_)
              refine lv_istore_n (lv' := [(2, .int x10135), (6, .int x10107), (5, .int y10088), (4, .int x9547), (3, .int y9518), (1, .int y10090), (0, .ref h)]) hx hb dX11_spies_156 rfl hl (by decide) rfl (fun ls hl => ?_)
              exact hJ157 (x10135, y10090) _ _ _ ⟨(kC_eq rfl (kC_eq rfl (kLet_eq (k10095).symm (kif_f (xF_le c10096) (kLet_eq (ti_mul ex10101 (rg_lit (n := 12) (by decide)) k9531 (by decide) rfl rfl) (kLet_eq (ti_add ex10103 (rg_lit (n := 145) (by decide)) k10102 (by decide) rfl rfl) (kLet_eq (ti_add ex10105 k10104 k10099 (by decide) rfl rfl) (kLet_eq (ke_ld ex10107) (kif_t (leI c10127) (kLet_eq (k10131).symm (kif_t (eqI c10132) (kLet_eq (ke_shl ex10134) (kLet_eq (ke_or ex10135) rfl))))))))))))), hP.sub (ws' := [(aw, kcI cI 2179 fw), (aP, .inl (cB, 400, .inl ft)), (h, oX11 0 aw ai ab ac hi re aP 0 0 ta be de fa a5 sp av an ak ne aW aC ag aT aN aF)]) [0, 1, 2] rfl, hD.sub (ws' := [(aw, kcI cI 2179 fw), (aP, .inl (cB, 400, .inl ft)), (h, oX11 0 aw ai ab ac hi re aP 0 0 ta be de fa a5 sp av an ak ne aW aC ag aT aN aF)]) [0, 1, 2] (by decide) rfl, hS, lv_sub (l' := [(6, .int x10107), (5, .int y10088), (4, .int x9547), (3, .int y9518), (2, .int x10135), (1, .int y10090), (0, .ref h)]) hl [1, 2, 3, 4, 0, 5, 6] rfl⟩
            · skip
              have k10136 : Rg r10129 1 1 := rg_n1 (neI c10132) k10130 (rg_lit (n := 0) (by decide)) (by decide)
              refine lv_iload_n hx hb dX11_spies_140 rfl (lv_at hl 5 rfl) ?_
              refine lv_iconst (v := 1) hx hb dX11_spies_141 (by decide) ?_
              refine lv_iload hx hb dX11_spies_142 (lv_at hl 0 rfl) ?_
              refine lv_ishl hx hb dX11_spies_144 ?_
              refine lv_topi (fun x10137 ex10137 => ?_)
              refine lv_ior hx hb dX11_spies_145 ?_
              refine lv_topi (fun x10138 ex10138 => ?_)
              refine lv_istore_n (lv' := [(1, .int x10138), (6, .int x10107), (5, .int y10088), (4, .int x9547), (3, .int y9518), (2, .int y10089), (0, .ref h)]) hx hb dX11_spies_146 rfl hl (by decide) rfl (fun ls hl => ?_)
              refine lv_goto (tgt := 157) hx hb dX11_spies_147 (by decide) ?_
              exact hJ157 (y10089, x10138) _ _ _ ⟨(kC_eq rfl (kC_eq rfl (kLet_eq (k10095).symm (kif_f (xF_le c10096) (kLet_eq (ti_mul ex10101 (rg_lit (n := 12) (by decide)) k9531 (by decide) rfl rfl) (kLet_eq (ti_add ex10103 (rg_lit (n := 145) (by decide)) k10102 (by decide) rfl rfl) (kLet_eq (ti_add ex10105 k10104 k10099 (by decide) rfl rfl) (kLet_eq (ke_ld ex10107) (kif_t (leI c10127) (kLet_eq (k10131).symm (kif_f (neI c10132) (kLet_eq (ke_shl ex10137) (kLet_eq (ke_or ex10138) rfl))))))))))))), hP.sub (ws' := [(aw, kcI cI 2179 fw), (aP, .inl (cB, 400, .inl ft)), (h, oX11 0 aw ai ab ac hi re aP 0 0 ta be de fa a5 sp av an ak ne aW aC ag aT aN aF)]) [0, 1, 2] rfl, hD.sub (ws' := [(aw, kcI cI 2179 fw), (aP, .inl (cB, 400, .inl ft)), (h, oX11 0 aw ai ab ac hi re aP 0 0 ta be de fa a5 sp av an ak ne aW aC ag aT aN aF)]) [0, 1, 2] (by decide) rfl, hS, lv_sub (l' := [(6, .int x10107), (5, .int y10088), (4, .int x9547), (3, .int y9518), (2, .int y10089), (1, .int x10138), (0, .ref h)]) hl [1, 2, 3, 4, 5, 0, 6] rfl⟩
          · skip
            have k10139 : Rg x10107 (-2147483648) (-1) := rg_l1 (nleI c10127) (rg_any x10107) (rg_lit (n := 0) (by decide)) (by decide)
            refine lv_goto (tgt := 157) hx hb dX11_spies_127 (by decide) ?_
            exact hJ157 (y10089, y10090) _ _ _ ⟨(kC_eq rfl (kC_eq rfl (kLet_eq (k10095).symm (kif_f (xF_le c10096) (kLet_eq (ti_mul ex10101 (rg_lit (n := 12) (by decide)) k9531 (by decide) rfl rfl) (kLet_eq (ti_add ex10103 (rg_lit (n := 145) (by decide)) k10102 (by decide) rfl rfl) (kLet_eq (ti_add ex10105 k10104 k10099 (by decide) rfl rfl) (kLet_eq (ke_ld ex10107) (kif_f (xF_le c10127) rfl))))))))), hP.sub (ws' := [(aw, kcI cI 2179 fw), (aP, .inl (cB, 400, .inl ft)), (h, oX11 0 aw ai ab ac hi re aP 0 0 ta be de fa a5 sp av an ak ne aW aC ag aT aN aF)]) [0, 1, 2] rfl, hD.sub (ws' := [(aw, kcI cI 2179 fw), (aP, .inl (cB, 400, .inl ft)), (h, oX11 0 aw ai ab ac hi re aP 0 0 ta be de fa a5 sp av an ak ne aW aC ag aT aN aF)]) [0, 1, 2] (by decide) rfl, hS, lv_sub (l' := [(6, .int x10107), (5, .int y10088), (4, .int x9547), (3, .int y9518), (2, .int y10089), (1, .int y10090), (0, .ref h)]) hl [0, 1, 2, 3, 4, 5, 6] rfl⟩
    · skip
      have k10140 : Rg x21 1 200 := rg_l2 (nleI c25) k24 k22 (by decide)
      exact hJ30 () _ _ _ ⟨(kLet_eq (ke_rem ex1) (kif_t (eqI c18) (kLet_eq (ke_div ex21) (kLet_eq (ke_ld ex23) (kif_f (xF_le c25) rfl))))), hP.sub (ws' := [(aw, kcI cI 2179 fw), (aP, .inl (cB, 400, .inl ft)), (h, oX11 0 aw ai ab ac hi re aP 0 0 ta be de fa a5 sp av an ak ne aW aC ag aT aN aF)]) [0, 1, 2] rfl, hD.sub (ws' := [(aw, kcI cI 2179 fw), (aP, .inl (cB, 400, .inl ft)), (h, oX11 0 aw ai ab ac hi re aP 0 0 ta be de fa a5 sp av an ak ne aW aC ag aT aN aF)]) [0, 1, 2] (by decide) rfl, hS, lv_sub (l' := [(0, .ref h)]) hl [0] rfl⟩

