def kwX11_emits : List Cond := .code yX11_emits cX11_emits 3 none :: kG
theorem hdX11_emits : yX11_emits.cls ≠ "java/lang/invoke/MethodHandle" ∧ yX11_emits.cls ≠ "java/lang/invoke/VarHandle" ∧ (parseMethodDescriptor yX11_emits.desc).map (fun d => d.parameters.length) = some 2 := by decide +kernel
theorem dX11_emits_0 : decode cX11_emits 0 = .ok (.aload_n 0, 1) := by decide +kernel
theorem dX11_emits_1 : decode cX11_emits 1 = .ok (.getfield 13, 3) := by decide +kernel
theorem dX11_emits_4 : decode cX11_emits 4 = .ok (.sipush 1379, 3) := by decide +kernel
theorem dX11_emits_7 : decode cX11_emits 7 = .ok (.iconst 2, 1) := by decide +kernel
theorem dX11_emits_8 : decode cX11_emits 8 = .ok (.aload_n 0, 1) := by decide +kernel
theorem dX11_emits_9 : decode cX11_emits 9 = .ok (.getfield 181, 3) := by decide +kernel
theorem dX11_emits_12 : decode cX11_emits 12 = .ok (.imul, 1) := by decide +kernel
theorem dX11_emits_13 : decode cX11_emits 13 = .ok (.iadd, 1) := by decide +kernel
theorem dX11_emits_14 : decode cX11_emits 14 = .ok (.iload_n 1, 1) := by decide +kernel
theorem dX11_emits_15 : decode cX11_emits 15 = .ok (.iastore, 1) := by decide +kernel
theorem dX11_emits_16 : decode cX11_emits 16 = .ok (.aload_n 0, 1) := by decide +kernel
theorem dX11_emits_17 : decode cX11_emits 17 = .ok (.getfield 13, 3) := by decide +kernel
theorem dX11_emits_20 : decode cX11_emits 20 = .ok (.sipush 1379, 3) := by decide +kernel
theorem dX11_emits_23 : decode cX11_emits 23 = .ok (.iconst 2, 1) := by decide +kernel
theorem dX11_emits_24 : decode cX11_emits 24 = .ok (.aload_n 0, 1) := by decide +kernel
theorem dX11_emits_25 : decode cX11_emits 25 = .ok (.getfield 181, 3) := by decide +kernel
theorem dX11_emits_28 : decode cX11_emits 28 = .ok (.imul, 1) := by decide +kernel
theorem dX11_emits_29 : decode cX11_emits 29 = .ok (.iadd, 1) := by decide +kernel
theorem dX11_emits_30 : decode cX11_emits 30 = .ok (.iconst 1, 1) := by decide +kernel
theorem dX11_emits_31 : decode cX11_emits 31 = .ok (.iadd, 1) := by decide +kernel
theorem dX11_emits_32 : decode cX11_emits 32 = .ok (.iload_n 2, 1) := by decide +kernel
theorem dX11_emits_33 : decode cX11_emits 33 = .ok (.iastore, 1) := by decide +kernel
theorem dX11_emits_34 : decode cX11_emits 34 = .ok (.aload_n 0, 1) := by decide +kernel
theorem dX11_emits_35 : decode cX11_emits 35 = .ok (.dup, 1) := by decide +kernel
theorem dX11_emits_36 : decode cX11_emits 36 = .ok (.getfield 181, 3) := by decide +kernel
theorem dX11_emits_39 : decode cX11_emits 39 = .ok (.iconst 1, 1) := by decide +kernel
theorem dX11_emits_40 : decode cX11_emits 40 = .ok (.iadd, 1) := by decide +kernel
theorem dX11_emits_41 : decode cX11_emits 41 = .ok (.putfield 181, 3) := by decide +kernel
theorem dX11_emits_44 : decode cX11_emits 44 = .ok (.return_, 1) := by decide +kernel
set_option maxHeartbeats 4000000 in
set_option maxRecDepth 100000 in
/-- reference: emits -/
theorem r_emits (l : Launch) (D : va_G) (cI cJ cB cC : ClassId) (h : Nat) (th : Int32) (aw : Nat) (ai : Nat) (ab : Nat) (ac : Nat) (hi : Int32) (re : Int32) (aP : Nat) (ta : Int32) (po : Int32) (en : Int32) (be : Int32) (de : Int32) (fa : Int32) (a5 : Nat) (sp : Int32) (av : Nat) (an : Nat) (ak : Nat) (ne : Int32) (aW : Nat) (aC : Nat) (ag : Nat) (aT : Nat) (aN : Nat) (aF : Nat) (fw : Nat → Int32) (st : Int32) (n : Int32) (sz : Nat) (H_sp : Rg sp 0 399) (H_fw_W : wW fw) (H_fw_B : wB fw) (H_fw_L : wL fw) : Met l yX11_emits kwX11_emits ({ frames := 0, cells := 0, slots := 0, locals := 0 } : Room) (kPre D (kT cI cJ cB cC) sz [(h, oX11 th aw ai ab ac hi re aP ta po en be de fa a5 sp av an ak ne aW aC ag aT aN aF), (aw, .inl (cI, 2179, .inl fw))] [.ref h, .int st, .int n]) (va_Qv (fun (uu : Int32 × (Nat → Int32)) => match uu with | (n0_, f1_) => Rg n0_ 1 400 ∧ wB f1_ ∧ wL f1_ ∧ wW f1_ ∧ (rEm fw f1_ sp n0_ st)) (fun (uu : Int32 × (Nat → Int32)) (t : State) => match uu with | (n0_, f1_) => kB D (kT cI cJ cB cC) (va_A [(h, oX11 th aw ai ab ac hi re aP ta po en be de fa a5 sp av an ak ne aW aC ag aT aN aF), (aw, .inl (cI, 2179, .inl fw))] sz) [(h, oX11 th aw ai ab ac hi re aP ta po en be de fa a5 n0_ av an ak ne aW aC ag aT aN aF), (aw, .inl (cI, 2179, .inl f1_))] t) (va_A [(h, oX11 th aw ai ab ac hi re aP ta po en be de fa a5 sp av an ak ne aW aC ag aT aN aF), (aw, .inl (cI, 2179, .inl fw))] sz)) 0 0 (va_A [(h, oX11 th aw ai ab ac hi re aP ta po en be de fa a5 sp av an ak ne aW aC ag aT aN aF), (aw, .inl (cI, 2179, .inl fw))] sz) := by
  refine Met.ofW (cc := cX11_emits) (maxL := 3) (ret := none) (by decide) rfl ?_
  intro p e s m args below meth c s₁ B hml hv
  obtain ⟨rfl, hsz, hN, hE, hP, hK, hD0⟩ := hv
  have hx := B.exec
  have hb := B.bytes
  have hr := B.returns
  have hts := fun (w : Cond) (h : w ∈ kG) => atoms_spec (ws := kwX11_emits) B.pre w (List.mem_cons_of_mem _ h)
  have hown : s.vm.findClass RX11 = some m.cls := findClass_of_methodNamed B.named
  subst hsz
  have hD := hD0.self (sz := s.heap.size)
  generalize hAe : va_A [(h, oX11 th aw ai ab ac hi re aP ta po en be de fa a5 sp av an ak ne aW aC ag aT aN aF), (aw, .inl (cI, 2179, .inl fw))] s.heap.size = A at hD hE ⊢
  have hA : ∀ q : Nat, s.heap.size ≤ q → A q := fun q h => by rw [← hAe]; exact Or.inr h
  have hl := lv_entry ([.ref h, .int st, .int n]) (n := 3) (Nat.le_of_ble_eq_true rfl)
  rw [lg_entry_eq]
  generalize (lg_sl ([.ref h, .int st, .int n]) ++ List.replicate (3 - (lg_sl ([.ref h, .int st, .int n])).length) Slot.unset).toArray = ls at hl ⊢
  have hl : lv_has ls 3 [(0, .ref h), (1, .int st), (2, .int n)] := hl
  obtain ⟨H, hH0⟩ : ∃ H, H = s.heap := ⟨_, rfl⟩
  have hS : va_S A s.heap H [] := by rw [hH0]; exact va_S.rf
  have hP : va_P D vwCl [(h, oX11 th aw ai ab ac hi re aP ta po en be de fa a5 sp av an ak ne aW aC ag aT aN aF), (aw, .inl (cI, 2179, .inl fw))] H := by rw [hH0]; exact hP
  refine kHeap hH0 ?_
  clear hH0
  refine lv_aload_n hx hb dX11_emits_0 rfl (lv_at hl 0 rfl) ?_
  refine va_get (D := D) (ci := 10) (v := .ref aw) (C := RX11) (T := TX11) (N := 26) hx hb hts iG_X11 hown hK hP 0 rfl rfl 1 (by decide) (hts _ w5_3) (fun _ h9 => h9) rfl dX11_emits_1 ?_
  refine lv_sipush (v := 1379) hx hb dX11_emits_4 (by decide) ?_
  refine lv_iconst (v := 2) hx hb dX11_emits_7 (by decide) ?_
  refine lv_aload_n hx hb dX11_emits_8 rfl (lv_at hl 0 rfl) ?_
  refine va_get (D := D) (ci := 10) (v := .int sp) (C := RX11) (T := TX11) (N := 26) hx hb hts iG_X11 hown hK hP 0 rfl rfl 15 (by decide) (hts _ w18_4) (fun _ h9 => h9) rfl dX11_emits_9 ?_
  refine lv_imul hx hb dX11_emits_12 ?_
  refine lv_topi (fun x1 ex1 => ?_)
  have tx1 : x1.toInt = 2 * sp.toInt := ti_mul ex1 (rg_lit (n := 2) (by decide)) H_sp (by decide) (by decide) rfl
  have k2 : Rg x1 0 798 := rg_mul ex1 (rg_lit (n := 2) (by decide)) H_sp (by decide)
  refine lv_iadd hx hb dX11_emits_13 ?_
  refine lv_topi (fun x3 ex3 => ?_)
  have tx3 : x3.toInt = 1379 + x1.toInt := ti_add ex3 (rg_lit (n := 1379) (by decide)) k2 (by decide) (by decide) rfl
  have k4 : Rg x3 1379 2177 := rg_add ex3 (rg_lit (n := 1379) (by decide)) k2 (by decide)
  refine lv_iload_n hx hb dX11_emits_14 rfl (lv_at hl 1 rfl) ?_
  refine va_iast hx hb hK hP hD hS 1 0 rfl rfl (rg_in k4 (by decide)) dX11_emits_15 (fun H locs hP hD hS => ?_)
  have hP : va_P D vwCl [(h, oX11 th aw ai ab ac hi re aP ta po en be de fa a5 sp av an ak ne aW aC ag aT aN aF), (aw, .inl (cI, 2179, .inl (upd fw x3.toNatClampNeg st)))] H := hP
  have hD : va_D A [(h, oX11 th aw ai ab ac hi re aP ta po en be de fa a5 sp av an ak ne aW aC ag aT aN aF), (aw, .inl (cI, 2179, .inl (upd fw x3.toNatClampNeg st)))] := hD
  have k6 : wW (upd fw x3.toNatClampNeg st) := wW_hi H_fw_W k4 (by decide)
  have k7 : wB (upd fw x3.toNatClampNeg st) := wB_hi H_fw_B H_fw_W k4 (by decide)
  have k8 : wL (upd fw x3.toNatClampNeg st) := wL_out H_fw_L k4 (by decide)
  generalize hg5 : (upd fw x3.toNatClampNeg st) = g5 at hP hD k6 k7 k8
  refine lv_aload_n hx hb dX11_emits_16 rfl (lv_at hl 0 rfl) ?_
  refine va_get (D := D) (ci := 10) (v := .ref aw) (C := RX11) (T := TX11) (N := 26) hx hb hts iG_X11 hown hK hP 0 rfl rfl 1 (by decide) (hts _ w5_3) (fun _ h9 => h9) rfl dX11_emits_17 ?_
  refine lv_sipush (v := 1379) hx hb dX11_emits_20 (by decide) ?_
  refine lv_iconst (v := 2) hx hb dX11_emits_23 (by decide) ?_
  refine lv_aload_n hx hb dX11_emits_24 rfl (lv_at hl 0 rfl) ?_
  refine va_get (D := D) (ci := 10) (v := .int sp) (C := RX11) (T := TX11) (N := 26) hx hb hts iG_X11 hown hK hP 0 rfl rfl 15 (by decide) (hts _ w18_4) (fun _ h9 => h9) rfl dX11_emits_25 ?_
  refine lv_imul hx hb dX11_emits_28 ?_
  refine lv_topi (fun x9 ex9 => ?_)
  have tx9 : x9.toInt = 2 * sp.toInt := ti_mul ex9 (rg_lit (n := 2) (by decide)) H_sp (by decide) (by decide) rfl
  have k10 : Rg x9 0 798 := rg_mul ex9 (rg_lit (n := 2) (by decide)) H_sp (by decide)
  refine lv_iadd hx hb dX11_emits_29 ?_
  refine lv_topi (fun x11 ex11 => ?_)
  have tx11 : x11.toInt = 1379 + x9.toInt := ti_add ex11 (rg_lit (n := 1379) (by decide)) k10 (by decide) (by decide) rfl
  have k12 : Rg x11 1379 2177 := rg_add ex11 (rg_lit (n := 1379) (by decide)) k10 (by decide)
  refine lv_iconst (v := 1) hx hb dX11_emits_30 (by decide) ?_
  refine lv_iadd hx hb dX11_emits_31 ?_
  refine lv_topi (fun x13 ex13 => ?_)
  have tx13 : x13.toInt = x11.toInt + 1 := ti_add ex13 k12 (rg_lit (n := 1) (by decide)) (by decide) rfl (by decide)
  have k14 : Rg x13 1380 2178 := rg_add ex13 k12 (rg_lit (n := 1) (by decide)) (by decide)
  refine lv_iload_n hx hb dX11_emits_32 rfl (lv_at hl 2 rfl) ?_
  refine va_iast hx hb hK hP hD hS 1 0 rfl rfl (rg_in k14 (by decide)) dX11_emits_33 (fun H locs hP hD hS => ?_)
  have hP : va_P D vwCl [(h, oX11 th aw ai ab ac hi re aP ta po en be de fa a5 sp av an ak ne aW aC ag aT aN aF), (aw, .inl (cI, 2179, .inl (upd g5 x13.toNatClampNeg n)))] H := hP
  have hD : va_D A [(h, oX11 th aw ai ab ac hi re aP ta po en be de fa a5 sp av an ak ne aW aC ag aT aN aF), (aw, .inl (cI, 2179, .inl (upd g5 x13.toNatClampNeg n)))] := hD
  have k16 : wW (upd g5 x13.toNatClampNeg n) := wW_hi k6 k14 (by decide)
  have k17 : wB (upd g5 x13.toNatClampNeg n) := wB_hi k7 k6 k14 (by decide)
  have k18 : wL (upd g5 x13.toNatClampNeg n) := wL_out k8 k14 (by decide)
  generalize hg15 : (upd g5 x13.toNatClampNeg n) = g15 at hP hD k16 k17 k18
  refine lv_aload_n hx hb dX11_emits_34 rfl (lv_at hl 0 rfl) ?_
  refine lv_dup hx hb dX11_emits_35 rfl ?_
  refine va_get (D := D) (ci := 10) (v := .int sp) (C := RX11) (T := TX11) (N := 26) hx hb hts iG_X11 hown hK hP 0 rfl rfl 15 (by decide) (hts _ w18_4) (fun _ h9 => h9) rfl dX11_emits_36 ?_
  refine lv_iconst (v := 1) hx hb dX11_emits_39 (by decide) ?_
  refine lv_iadd hx hb dX11_emits_40 ?_
  refine lv_topi (fun x19 ex19 => ?_)
  have tx19 : x19.toInt = sp.toInt + 1 := ti_add ex19 H_sp (rg_lit (n := 1) (by decide)) (by decide) rfl (by decide)
  have k20 : Rg x19 1 400 := rg_add ex19 H_sp (rg_lit (n := 1) (by decide)) (by decide)
  refine va_put (D := D) (ci := 10) (v := .int x19) (ty := .int) (C := RX11) (T := TX11) (N := 26) hx hb hts iG_X11 tyX11 tyX11_ok nmX11 hown hK hP hD hS 0 rfl rfl 15 (by decide) (hts _ w18_4) (fun _ h9 => h9) rfl (by decide +kernel) rfl rfl (Nat.le_of_ble_eq_true rfl) dX11_emits_41 (fun H locs hP hD hS => ?_)
  have hP : va_P D vwCl [(h, oX11 th aw ai ab ac hi re aP ta po en be de fa a5 x19 av an ak ne aW aC ag aT aN aF), (aw, .inl (cI, 2179, .inl g15))] H := hP
  have hD : va_D A [(h, oX11 th aw ai ab ac hi re aP ta po en be de fa a5 x19 av an ak ne aW aC ag aT aN aF), (aw, .inl (cI, 2179, .inl g15))] := hD
  have hP9 := hP.sub (ws' := [(h, oX11 th aw ai ab ac hi re aP ta po en be de fa a5 x19 av an ak ne aW aC ag aT aN aF), (aw, .inl (cI, 2179, .inl g15))]) [0, 1] rfl
  have hD9 := hD.sub (ws' := [(h, oX11 th aw ai ab ac hi re aP ta po en be de fa a5 x19 av an ak ne aW aC ag aT aN aF), (aw, .inl (cI, 2179, .inl g15))]) [0, 1] (by decide) rfl
  exact W.vret hx hb hr (fun t ht hW => ⟨⟨(x19, g15), rfl, ⟨k20, k17, k18, k16, (rEm_of hg5 hg15 (cl_of (k := 1379 + 2 * cN sp) k4 (by decide) (by simp only [cN]; have q0 := tx1; have q1 := tx3; have q3 := tx9; have q4 := tx11; have q5 := tx13; have q7 := tx19; have q8 := H_sp; have q9 : (0 : Int32).toInt = 0 := (by decide); have q10 : (1 : Int32).toInt = 1 := (by decide); unfold Rg at *; omega)) (cl_of (k := 1380 + 2 * cN sp) k14 (by decide) (by simp only [cN]; have q0 := tx1; have q1 := tx3; have q3 := tx9; have q4 := tx11; have q5 := tx13; have q7 := tx19; have q8 := H_sp; have q9 : (0 : Int32).toInt = 0 := (by decide); have q10 : (1 : Int32).toInt = 1 := (by decide); unfold Rg at *; omega)) (by have q0 := tx1; have q1 := tx3; have q3 := tx9; have q4 := tx11; have q5 := tx13; have q7 := tx19; have q8 : (0 : Int32).toInt = 0 := (by decide); have q9 : (1 : Int32).toInt = 1 := (by decide); unfold Rg at *; omega) (by have q1 := H_sp; unfold Rg at q1; omega))⟩, by rw [ht]; exact hP9, va_K.moved hW.alike hK, hD9⟩, hS.F ht⟩) hS.2.2 dX11_emits_44

def kwX11_readPart : List Cond := .code yX11_readPart cX11_readPart 2 (some .boolean) :: kG
theorem hdX11_readPart : yX11_readPart.cls ≠ "java/lang/invoke/MethodHandle" ∧ yX11_readPart.cls ≠ "java/lang/invoke/VarHandle" ∧ (parseMethodDescriptor yX11_readPart.desc).map (fun d => d.parameters.length) = some 0 := by decide +kernel
theorem gX11_readPart_X11_emits : GoodIn kG (wsV RX11 184 RX11 yX11_emits kwX11_emits) := gK w22_5 (gK w22_6 (gK w22_7 (gK w0_5 (gK w22_8 gGG))))
theorem gX11_readPart_X11_isWord : GoodIn kG (wsV RX11 114 RX11 yX11_isWord kwX11_isWord) := gK w19_7 (gK w19_8 (gK w19_9 (gK w0_5 (gK w19_10 gGG))))
theorem gX11_readPart_X11_letters : GoodIn kG (wsV RX11 111 RX11 yX11_letters kwX11_letters) := gK w18_23 (gK w19_0 (gK w19_1 (gK w0_5 (gK w19_2 gGG))))
theorem gX11_readPart_X11_number : GoodIn kG (wsV RX11 118 RX11 yX11_number kwX11_number) := gK w19_21 (gK w19_22 (gK w19_23 (gK w0_5 (gK w20_0 gGG))))
theorem dX11_readPart_0 : decode cX11_readPart 0 = .ok (.aload_n 0, 1) := by decide +kernel
theorem dX11_readPart_1 : decode cX11_readPart 1 = .ok (.invokevirtual 111, 3) := by decide +kernel
theorem dX11_readPart_4 : decode cX11_readPart 4 = .ok (.aload_n 0, 1) := by decide +kernel
theorem dX11_readPart_5 : decode cX11_readPart 5 = .ok (.getfield 86, 3) := by decide +kernel
theorem dX11_readPart_8 : decode cX11_readPart 8 = .ok (.aload_n 0, 1) := by decide +kernel
theorem dX11_readPart_9 : decode cX11_readPart 9 = .ok (.getfield 96, 3) := by decide +kernel
theorem dX11_readPart_12 : decode cX11_readPart 12 = .ok (.if_icmp .ne 22, 3) := by decide +kernel
theorem dX11_readPart_15 : decode cX11_readPart 15 = .ok (.aload_n 0, 1) := by decide +kernel
theorem dX11_readPart_16 : decode cX11_readPart 16 = .ok (.iconst 0, 1) := by decide +kernel
theorem dX11_readPart_17 : decode cX11_readPart 17 = .ok (.sipush 999, 3) := by decide +kernel
theorem dX11_readPart_20 : decode cX11_readPart 20 = .ok (.invokevirtual 118, 3) := by decide +kernel
theorem dX11_readPart_23 : decode cX11_readPart 23 = .ok (.istore_n 1, 1) := by decide +kernel
theorem dX11_readPart_24 : decode cX11_readPart 24 = .ok (.aload_n 0, 1) := by decide +kernel
theorem dX11_readPart_25 : decode cX11_readPart 25 = .ok (.bipush 12, 2) := by decide +kernel
theorem dX11_readPart_27 : decode cX11_readPart 27 = .ok (.iload_n 1, 1) := by decide +kernel
theorem dX11_readPart_28 : decode cX11_readPart 28 = .ok (.invokevirtual 184, 3) := by decide +kernel
theorem dX11_readPart_31 : decode cX11_readPart 31 = .ok (.goto 131, 3) := by decide +kernel
theorem dX11_readPart_34 : decode cX11_readPart 34 = .ok (.aload_n 0, 1) := by decide +kernel
theorem dX11_readPart_35 : decode cX11_readPart 35 = .ok (.ldc 188, 2) := by decide +kernel
theorem dX11_readPart_37 : decode cX11_readPart 37 = .ok (.invokevirtual 114, 3) := by decide +kernel
theorem dX11_readPart_40 : decode cX11_readPart 40 = .ok (.ifCond .eq 7, 3) := by decide +kernel
theorem dX11_readPart_43 : decode cX11_readPart 43 = .ok (.iconst 0, 1) := by decide +kernel
theorem dX11_readPart_44 : decode cX11_readPart 44 = .ok (.goto 111, 3) := by decide +kernel
theorem dX11_readPart_47 : decode cX11_readPart 47 = .ok (.aload_n 0, 1) := by decide +kernel
theorem dX11_readPart_48 : decode cX11_readPart 48 = .ok (.ldc 145, 2) := by decide +kernel
theorem dX11_readPart_50 : decode cX11_readPart 50 = .ok (.invokevirtual 114, 3) := by decide +kernel
theorem dX11_readPart_53 : decode cX11_readPart 53 = .ok (.ifCond .eq 7, 3) := by decide +kernel
theorem dX11_readPart_56 : decode cX11_readPart 56 = .ok (.iconst 1, 1) := by decide +kernel
theorem dX11_readPart_57 : decode cX11_readPart 57 = .ok (.goto 98, 3) := by decide +kernel
theorem dX11_readPart_60 : decode cX11_readPart 60 = .ok (.aload_n 0, 1) := by decide +kernel
theorem dX11_readPart_61 : decode cX11_readPart 61 = .ok (.ldc 146, 2) := by decide +kernel
theorem dX11_readPart_63 : decode cX11_readPart 63 = .ok (.invokevirtual 114, 3) := by decide +kernel
theorem dX11_readPart_66 : decode cX11_readPart 66 = .ok (.ifCond .eq 7, 3) := by decide +kernel
theorem dX11_readPart_69 : decode cX11_readPart 69 = .ok (.iconst 2, 1) := by decide +kernel
theorem dX11_readPart_70 : decode cX11_readPart 70 = .ok (.goto 85, 3) := by decide +kernel
theorem dX11_readPart_73 : decode cX11_readPart 73 = .ok (.aload_n 0, 1) := by decide +kernel
theorem dX11_readPart_74 : decode cX11_readPart 74 = .ok (.ldc 148, 2) := by decide +kernel
theorem dX11_readPart_76 : decode cX11_readPart 76 = .ok (.invokevirtual 114, 3) := by decide +kernel
theorem dX11_readPart_79 : decode cX11_readPart 79 = .ok (.ifCond .eq 7, 3) := by decide +kernel
theorem dX11_readPart_82 : decode cX11_readPart 82 = .ok (.iconst 3, 1) := by decide +kernel
theorem dX11_readPart_83 : decode cX11_readPart 83 = .ok (.goto 72, 3) := by decide +kernel
theorem dX11_readPart_86 : decode cX11_readPart 86 = .ok (.aload_n 0, 1) := by decide +kernel
theorem dX11_readPart_87 : decode cX11_readPart 87 = .ok (.ldc 189, 2) := by decide +kernel
theorem dX11_readPart_89 : decode cX11_readPart 89 = .ok (.invokevirtual 114, 3) := by decide +kernel
theorem dX11_readPart_92 : decode cX11_readPart 92 = .ok (.ifCond .eq 7, 3) := by decide +kernel
theorem dX11_readPart_95 : decode cX11_readPart 95 = .ok (.iconst 4, 1) := by decide +kernel
theorem dX11_readPart_96 : decode cX11_readPart 96 = .ok (.goto 59, 3) := by decide +kernel
theorem dX11_readPart_99 : decode cX11_readPart 99 = .ok (.aload_n 0, 1) := by decide +kernel
theorem dX11_readPart_100 : decode cX11_readPart 100 = .ok (.ldc 128, 2) := by decide +kernel
theorem dX11_readPart_102 : decode cX11_readPart 102 = .ok (.invokevirtual 114, 3) := by decide +kernel
theorem dX11_readPart_105 : decode cX11_readPart 105 = .ok (.ifCond .eq 7, 3) := by decide +kernel
theorem dX11_readPart_108 : decode cX11_readPart 108 = .ok (.iconst 5, 1) := by decide +kernel
theorem dX11_readPart_109 : decode cX11_readPart 109 = .ok (.goto 46, 3) := by decide +kernel
theorem dX11_readPart_112 : decode cX11_readPart 112 = .ok (.aload_n 0, 1) := by decide +kernel
theorem dX11_readPart_113 : decode cX11_readPart 113 = .ok (.ldc 191, 2) := by decide +kernel
theorem dX11_readPart_115 : decode cX11_readPart 115 = .ok (.invokevirtual 114, 3) := by decide +kernel
theorem dX11_readPart_118 : decode cX11_readPart 118 = .ok (.ifCond .eq 8, 3) := by decide +kernel
theorem dX11_readPart_121 : decode cX11_readPart 121 = .ok (.bipush 6, 2) := by decide +kernel
theorem dX11_readPart_123 : decode cX11_readPart 123 = .ok (.goto 32, 3) := by decide +kernel
theorem dX11_readPart_126 : decode cX11_readPart 126 = .ok (.aload_n 0, 1) := by decide +kernel
theorem dX11_readPart_127 : decode cX11_readPart 127 = .ok (.ldc 134, 2) := by decide +kernel
theorem dX11_readPart_129 : decode cX11_readPart 129 = .ok (.invokevirtual 114, 3) := by decide +kernel
theorem dX11_readPart_132 : decode cX11_readPart 132 = .ok (.ifCond .eq 8, 3) := by decide +kernel
theorem dX11_readPart_135 : decode cX11_readPart 135 = .ok (.bipush 7, 2) := by decide +kernel
theorem dX11_readPart_137 : decode cX11_readPart 137 = .ok (.goto 18, 3) := by decide +kernel
theorem dX11_readPart_140 : decode cX11_readPart 140 = .ok (.aload_n 0, 1) := by decide +kernel
theorem dX11_readPart_141 : decode cX11_readPart 141 = .ok (.ldc 193, 2) := by decide +kernel
theorem dX11_readPart_143 : decode cX11_readPart 143 = .ok (.invokevirtual 114, 3) := by decide +kernel
theorem dX11_readPart_146 : decode cX11_readPart 146 = .ok (.ifCond .eq 8, 3) := by decide +kernel
theorem dX11_readPart_149 : decode cX11_readPart 149 = .ok (.bipush 8, 2) := by decide +kernel
theorem dX11_readPart_151 : decode cX11_readPart 151 = .ok (.goto 4, 3) := by decide +kernel
theorem dX11_readPart_154 : decode cX11_readPart 154 = .ok (.iconst (-1), 1) := by decide +kernel
theorem dX11_readPart_155 : decode cX11_readPart 155 = .ok (.istore_n 1, 1) := by decide +kernel
theorem dX11_readPart_156 : decode cX11_readPart 156 = .ok (.aload_n 0, 1) := by decide +kernel
theorem dX11_readPart_157 : decode cX11_readPart 157 = .ok (.iload_n 1, 1) := by decide +kernel
theorem dX11_readPart_158 : decode cX11_readPart 158 = .ok (.iconst 0, 1) := by decide +kernel
theorem dX11_readPart_159 : decode cX11_readPart 159 = .ok (.invokevirtual 184, 3) := by decide +kernel
theorem dX11_readPart_162 : decode cX11_readPart 162 = .ok (.iload_n 1, 1) := by decide +kernel
theorem dX11_readPart_163 : decode cX11_readPart 163 = .ok (.ifCond .lt 7, 3) := by decide +kernel
theorem dX11_readPart_166 : decode cX11_readPart 166 = .ok (.iconst 1, 1) := by decide +kernel
theorem dX11_readPart_167 : decode cX11_readPart 167 = .ok (.goto 4, 3) := by decide +kernel
theorem dX11_readPart_170 : decode cX11_readPart 170 = .ok (.iconst 0, 1) := by decide +kernel
theorem dX11_readPart_171 : decode cX11_readPart 171 = .ok (.ireturn, 1) := by decide +kernel
set_option maxHeartbeats 4000000 in
set_option maxRecDepth 100000 in
/-- reference: readPart -/
theorem r_readPart (l : Launch) (D : va_G) (cI cJ cB cC : ClassId) (h : Nat) (th : Int32) (aw : Nat) (ai : Nat) (ab : Nat) (ac : Nat) (hi : Int32) (re : Int32) (aP : Nat) (ta : Int32) (po : Int32) (en : Int32) (be : Int32) (de : Int32) (fa : Int32) (a5 : Nat) (sp : Int32) (av : Nat) (an : Nat) (ak : Nat) (ne : Int32) (aW : Nat) (aC : Nat) (ag : Nat) (aT : Nat) (aN : Nat) (aF : Nat) (fw : Nat → Int32) (ft : Nat → Int32) (sz : Nat) (H_po : Rg po 0 400) (H_en : Rg en 0 400) (H_sp : Rg sp 0 395) (H_fw_W : wW fw) (H_fw_B : wB fw) (H_fw_L : wL fw) (H_SP : (sp : Int32).toInt + 5 ≤ (po : Int32).toInt) : Met l yX11_readPart kwX11_readPart ({ frames := 5, cells := 0, slots := 0, locals := 108 } : Room) (kPre D (kT cI cJ cB cC) sz [(h, oX11 th aw ai ab ac hi re aP ta po en be de fa a5 sp av an ak ne aW aC ag aT aN aF), (aw, .inl (cI, 2179, .inl fw)), (aP, .inl (cB, 400, .inl ft))] [.ref h]) (va_Qi (fun (r : Int32) (uu : Int32 × Int32 × Int32 × (Nat → Int32)) => match uu with | (n0_, n1_, n2_, f3_) => Rg n0_ 0 400 ∧ Rg n1_ 0 400 ∧ Rg n2_ 1 400 ∧ wB f3_ ∧ wL f3_ ∧ wW f3_ ∧ ((r = 0) ∨ (r = 1 ∧ rOk fw f3_ sp n2_ po n0_ 1))) (fun (uu : Int32 × Int32 × Int32 × (Nat → Int32)) (t : State) => match uu with | (n0_, n1_, n2_, f3_) => kB D (kT cI cJ cB cC) (va_A [(h, oX11 th aw ai ab ac hi re aP ta po en be de fa a5 sp av an ak ne aW aC ag aT aN aF), (aw, .inl (cI, 2179, .inl fw)), (aP, .inl (cB, 400, .inl ft))] sz) [(h, oX11 th aw ai ab ac hi re aP ta n0_ en n1_ de fa a5 n2_ av an ak ne aW aC ag aT aN aF), (aw, .inl (cI, 2179, .inl f3_)), (aP, .inl (cB, 400, .inl ft))] t) (va_A [(h, oX11 th aw ai ab ac hi re aP ta po en be de fa a5 sp av an ak ne aW aC ag aT aN aF), (aw, .inl (cI, 2179, .inl fw)), (aP, .inl (cB, 400, .inl ft))] sz)) 0 0 (va_A [(h, oX11 th aw ai ab ac hi re aP ta po en be de fa a5 sp av an ak ne aW aC ag aT aN aF), (aw, .inl (cI, 2179, .inl fw)), (aP, .inl (cB, 400, .inl ft))] sz) := by
  refine Met.ofW (cc := cX11_readPart) (maxL := 2) (ret := (some .boolean)) (by decide) rfl ?_
  intro p e s m args below meth c s₁ B hml hv
  obtain ⟨rfl, hsz, hN, hE, hP, hK, hD0⟩ := hv
  have hx := B.exec
  have hb := B.bytes
  have hr := B.returns
  have hts := fun (w : Cond) (h : w ∈ kG) => atoms_spec (ws := kwX11_readPart) B.pre w (List.mem_cons_of_mem _ h)
  have hown : s.vm.findClass RX11 = some m.cls := findClass_of_methodNamed B.named
  subst hsz
  have hD := hD0.self (sz := s.heap.size)
  generalize hAe : va_A [(h, oX11 th aw ai ab ac hi re aP ta po en be de fa a5 sp av an ak ne aW aC ag aT aN aF), (aw, .inl (cI, 2179, .inl fw)), (aP, .inl (cB, 400, .inl ft))] s.heap.size = A at hD hE ⊢
  have hA : ∀ q : Nat, s.heap.size ≤ q → A q := fun q h => by rw [← hAe]; exact Or.inr h
  have hl := lv_entry ([.ref h]) (n := 2) (Nat.le_of_ble_eq_true rfl)
  rw [lg_entry_eq]
  generalize (lg_sl ([.ref h]) ++ List.replicate (2 - (lg_sl ([.ref h])).length) Slot.unset).toArray = ls at hl ⊢
  have hl : lv_has ls 2 [(0, .ref h)] := hl
  obtain ⟨H, hH0⟩ : ∃ H, H = s.heap := ⟨_, rfl⟩
  have hS : va_S A s.heap H [] := by rw [hH0]; exact va_S.rf
  have hP : va_P D vwCl [(h, oX11 th aw ai ab ac hi re aP ta po en be de fa a5 sp av an ak ne aW aC ag aT aN aF), (aw, .inl (cI, 2179, .inl fw)), (aP, .inl (cB, 400, .inl ft))] H := by rw [hH0]; exact hP
  refine kHeap hH0 ?_
  clear hH0
  refine lv_aload_n hx hb dX11_readPart_0 rfl (lv_at hl 0 rfl) ?_
  refine kcallv (wc := [(h, oX11 th aw ai ab ac hi re aP ta po en be de fa a5 sp av an ak ne aW aC ag aT aN aF), (aP, .inl (cB, 400, .inl ft))]) (wr := [(aw, .inl (cI, 2179, .inl fw))]) hP hD hS hA [0, 2] [1] rfl rfl (by decide) (by decide) (by decide) (fun hPc hDc hFc => va_runV (As := []) (rest := []) ⟨hx, hb, hml, hown, hts⟩ (r_letters l D cI cJ cB cC h th aw ai ab ac hi re aP ta po en be de fa a5 sp av an ak ne aW aC ag aT aN aF ft H.size H_po H_en) (cwV 0 hts gX11_readPart_X11_letters rfl rfl rfl ⟨rfl, hdX11_letters⟩ ⟨Nat.le_of_ble_eq_true rfl, Nat.le_of_ble_eq_true rfl⟩) ⟨kBlind, va_recv hK hPc (ci := 10) (q0 := 0) rfl rfl, fun U hU hW => ⟨rfl, by rw [hU], hN.warm hW, hE.pass hS hFc hW hU, by rw [hU]; exact hPc, va_K.moved hW.alike hK, hDc⟩⟩ rfl rfl hl.1 rfl (lv_room (Nat.le_of_ble_eq_true rfl)) dX11_readPart_1 ⟨Nat.le_of_ble_eq_true rfl, Nat.le_of_ble_eq_true rfl⟩) (fun u H locs hw hP hD hS => ?_)
  obtain ⟨x1, x2⟩ := u
  have hP : va_P D vwCl [(aw, .inl (cI, 2179, .inl fw)), (h, oX11 th aw ai ab ac hi re aP ta x1 en x2 de fa a5 sp av an ak ne aW aC ag aT aN aF), (aP, .inl (cB, 400, .inl ft))] H := hP
  have hD : va_D A [(aw, .inl (cI, 2179, .inl fw)), (h, oX11 th aw ai ab ac hi re aP ta x1 en x2 de fa a5 sp av an ak ne aW aC ag aT aN aF), (aP, .inl (cB, 400, .inl ft))] := hD
  obtain ⟨k3, k4, k5, k6⟩ := hw
  refine lv_aload_n hx hb dX11_readPart_4 rfl (lv_at hl 0 rfl) ?_
  refine va_get (D := D) (ci := 10) (v := .int x1) (C := RX11) (T := TX11) (N := 26) hx hb hts iG_X11 hown hK hP 1 rfl rfl 9 (by decide) (hts _ w18_5) (fun _ h9 => h9) rfl dX11_readPart_5 ?_
  refine lv_aload_n hx hb dX11_readPart_8 rfl (lv_at hl 0 rfl) ?_
  refine va_get (D := D) (ci := 10) (v := .int x2) (C := RX11) (T := TX11) (N := 26) hx hb hts iG_X11 hown hK hP 1 rfl rfl 11 (by decide) (hts _ w17_22) (fun _ h9 => h9) rfl dX11_readPart_9 ?_
  refine lv_icmp_ne (tgt := 34) hx hb dX11_readPart_12 (by decide) (fun c121 => ?_) (fun c121 => ?_)
  · skip
    refine lv_aload_n hx hb dX11_readPart_34 rfl (lv_at hl 0 rfl) ?_
    obtain ⟨q122, q123, hR124, hT125⟩ := kTx_23 hE.2.2
    refine va_ldcS hx hb hown hR124 dX11_readPart_35 ?_
    refine kpurei (wc := [(h, oX11 th aw ai ab ac hi re aP ta x1 en x2 de fa a5 sp av an ak ne aW aC ag aT aN aF), (aP, .inl (cB, 400, .inl ft))]) hP hD hS hA [1, 2] rfl (by decide) (fun hPc hDc hFc => va_runV (As := [.ref q122]) (rest := []) ⟨hx, hb, hml, hown, hts⟩ (r_isWord l D cI cJ cB cC h th aw ai ab ac hi re aP ta x1 en x2 de fa a5 sp av an ak ne aW aC ag aT aN aF ft q122 kSb23 q123 H.size k3 H_en k4 kSb23_le) (cwV 1 hts gX11_readPart_X11_isWord rfl rfl rfl ⟨rfl, hdX11_isWord⟩ ⟨Nat.le_of_ble_eq_true rfl, Nat.le_of_ble_eq_true rfl⟩) ⟨kBlindT, va_recv hK hPc (ci := 10) (q0 := 0) rfl rfl, fun U hU hW => ⟨rfl, by rw [hU], hN.warm hW, hE.pass hS hFc hW hU, hT125.pass hS hFc hW hU, by rw [hU]; exact hPc, va_K.moved hW.alike hK, hDc⟩⟩ rfl rfl hl.1 rfl (lv_room (Nat.le_of_ble_eq_true rfl)) dX11_readPart_37 ⟨Nat.le_of_ble_eq_true rfl, Nat.le_of_ble_eq_true rfl⟩) (fun r126 u H locs hw hP hS => ?_)
    obtain ⟨k127, k128⟩ := hw
    refine k_join (hd := 155) (cells2 := 0) (slots2 := 0) (fun (z213 : Int32) => [.int z213]) (fun (z213 : Int32) (H : Heap) (locs : List Loc) (ls : Array Slot) => Rg z213 (-1) 8 ∧ va_P D vwCl [(aw, .inl (cI, 2179, .inl fw)), (h, oX11 th aw ai ab ac hi re aP ta x1 en x2 de fa a5 sp av an ak ne aW aC ag aT aN aF), (aP, .inl (cB, 400, .inl ft))] H ∧ va_D A [(aw, .inl (cI, 2179, .inl fw)), (h, oX11 th aw ai ab ac hi re aP ta x1 en x2 de fa a5 sp av an ak ne aW aC ag aT aN aF), (aP, .inl (cB, 400, .inl ft))] ∧ va_S A s.heap H locs ∧ lv_has ls 2 [(0, .ref h)]) (fun u H locs ls hI => ?_) (fun hJ155 => ?_)
    · skip
      clear hP hD hS hl
      obtain ⟨z213, rfl⟩ : ∃ z, z = u := ⟨_, rfl⟩
      obtain ⟨hz213, hP, hD, hS, hl⟩ := hI
      have hP : va_P D vwCl [(aw, .inl (cI, 2179, .inl fw)), (h, oX11 th aw ai ab ac hi re aP ta x1 en x2 de fa a5 sp av an ak ne aW aC ag aT aN aF), (aP, .inl (cB, 400, .inl ft))] H := hP
      have hD : va_D A [(aw, .inl (cI, 2179, .inl fw)), (h, oX11 th aw ai ab ac hi re aP ta x1 en x2 de fa a5 sp av an ak ne aW aC ag aT aN aF), (aP, .inl (cB, 400, .inl ft))] := hD
      have hl : lv_has ls 2 [(0, .ref h)] := hl
      show W _ _ _ _ _ _ _ _ _ _ _ _ _ _ _ (F0 m 155 ls [.int z213])
      refine lv_istore_n (lv' := [(1, .int z213), (0, .ref h)]) hx hb dX11_readPart_155 rfl hl (by decide) rfl (fun ls hl => ?_)
      refine lv_aload_n hx hb dX11_readPart_156 rfl (lv_at hl 1 rfl) ?_
      refine lv_iload_n hx hb dX11_readPart_157 rfl (lv_at hl 0 rfl) ?_
      refine lv_iconst (v := 0) hx hb dX11_readPart_158 (by decide) ?_
      refine kcallv (wc := [(h, oX11 th aw ai ab ac hi re aP ta x1 en x2 de fa a5 sp av an ak ne aW aC ag aT aN aF), (aw, .inl (cI, 2179, .inl fw))]) (wr := [(aP, .inl (cB, 400, .inl ft))]) hP hD hS hA [1, 0] [2] rfl rfl (by decide) (by decide) (by decide) (fun hPc hDc hFc => va_runV (As := [.int z213, .int 0]) (rest := []) ⟨hx, hb, hml, hown, hts⟩ (r_emits l D cI cJ cB cC h th aw ai ab ac hi re aP ta x1 en x2 de fa a5 sp av an ak ne aW aC ag aT aN aF fw z213 0 H.size (rg_w H_sp (by decide)) H_fw_W H_fw_B H_fw_L) (cwV 2 hts gX11_readPart_X11_emits rfl rfl rfl ⟨rfl, hdX11_emits⟩ ⟨Nat.le_of_ble_eq_true rfl, Nat.le_of_ble_eq_true rfl⟩) ⟨kBlind, va_recv hK hPc (ci := 10) (q0 := 0) rfl rfl, fun U hU hW => ⟨rfl, by rw [hU], hN.warm hW, hE.pass hS hFc hW hU, by rw [hU]; exact hPc, va_K.moved hW.alike hK, hDc⟩⟩ rfl rfl hl.1 rfl (lv_room (Nat.le_of_ble_eq_true rfl)) dX11_readPart_159 ⟨Nat.le_of_ble_eq_true rfl, Nat.le_of_ble_eq_true rfl⟩) (fun u H locs hw hP hD hS => ?_)
      obtain ⟨x214, g215⟩ := u
      have hP : va_P D vwCl [(aP, .inl (cB, 400, .inl ft)), (h, oX11 th aw ai ab ac hi re aP ta x1 en x2 de fa a5 x214 av an ak ne aW aC ag aT aN aF), (aw, .inl (cI, 2179, .inl g215))] H := hP
      have hD : va_D A [(aP, .inl (cB, 400, .inl ft)), (h, oX11 th aw ai ab ac hi re aP ta x1 en x2 de fa a5 x214 av an ak ne aW aC ag aT aN aF), (aw, .inl (cI, 2179, .inl g215))] := hD
      obtain ⟨k216, k217, k218, k219, k220⟩ := hw
      refine lv_iload_n hx hb dX11_readPart_162 rfl (lv_at hl 0 rfl) ?_
      refine lv_if_lt (tgt := 170) hx hb dX11_readPart_163 (by decide) (fun c224 => ?_) (fun c224 => ?_)
      · skip
        have k225 : Rg z213 (-1) (-1) := rg_l1 (ltI c224) hz213 (rg_lit (n := 0) (by decide)) (by decide)
        refine lv_iconst (v := 0) hx hb dX11_readPart_170 (by decide) ?_
        have hP9 := hP.sub (ws' := [(h, oX11 th aw ai ab ac hi re aP ta x1 en x2 de fa a5 x214 av an ak ne aW aC ag aT aN aF), (aw, .inl (cI, 2179, .inl g215)), (aP, .inl (cB, 400, .inl ft))]) [1, 2, 0] rfl
        have hD9 := hD.sub (ws' := [(h, oX11 th aw ai ab ac hi re aP ta x1 en x2 de fa a5 x214 av an ak ne aW aC ag aT aN aF), (aw, .inl (cI, 2179, .inl g215)), (aP, .inl (cB, 400, .inl ft))]) [1, 2, 0] (by decide) rfl
        exact W.zret (v := 0) hx hb hr (by decide) (fun t ht hW => ⟨⟨0, (x1, x2, x214, g215), rfl, ⟨k3, k4, k216, k217, k218, k219, (Or.inl rfl)⟩, by rw [ht]; exact hP9, va_K.moved hW.alike hK, hD9⟩, hS.F ht⟩) hS.2.2 dX11_readPart_171
      · skip
        have k226 : Rg z213 0 8 := rg_e2 (nltI c224) (rg_lit (n := 0) (by decide)) hz213 (by decide)
        refine lv_iconst (v := 1) hx hb dX11_readPart_166 (by decide) ?_
        refine lv_goto (tgt := 171) hx hb dX11_readPart_167 (by decide) ?_
        have hP9 := hP.sub (ws' := [(h, oX11 th aw ai ab ac hi re aP ta x1 en x2 de fa a5 x214 av an ak ne aW aC ag aT aN aF), (aw, .inl (cI, 2179, .inl g215)), (aP, .inl (cB, 400, .inl ft))]) [1, 2, 0] rfl
        have hD9 := hD.sub (ws' := [(h, oX11 th aw ai ab ac hi re aP ta x1 en x2 de fa a5 x214 av an ak ne aW aC ag aT aN aF), (aw, .inl (cI, 2179, .inl g215)), (aP, .inl (cB, 400, .inl ft))]) [1, 2, 0] (by decide) rfl
        exact W.zret (v := 1) hx hb hr (by decide) (fun t ht hW => ⟨⟨1, (x1, x2, x214, g215), rfl, ⟨k3, k4, k216, k217, k218, k219, (Or.inr ⟨rfl, (rOk_part k220 (by have q1 := k226; unfold Rg at q1; exact ⟨by omega, by omega⟩) (by have q0 := H_SP; have q1 := k5; have q3 := k6; have q4 := neI c121; have q5 := neI (Ne.symm c121); have q7 := k128; obtain ⟨-, -, u9, -⟩ := k220; have q11 := (nltI c224); have q12 : (0 : Int32).toInt = 0 := (by decide); have q13 : (1 : Int32).toInt = 1 := (by decide); have q14 : ((nI kSb23.length) : Int32).toInt = 6 := (by decide); unfold Rg at *; omega))⟩)⟩, by rw [ht]; exact hP9, va_K.moved hW.alike hK, hD9⟩, hS.F ht⟩) hS.2.2 dX11_readPart_171
    refine lv_if_eq (tgt := 47) hx hb dX11_readPart_40 (by decide) (fun c227 => ?_) (fun c227 => ?_)
    · skip
      have k228 : Rg r126 0 0 := rg_q1 (eqI c227) k127 (rg_lit (n := 0) (by decide)) (by decide)
      refine lv_aload_n hx hb dX11_readPart_47 rfl (lv_at hl 0 rfl) ?_
      obtain ⟨q229, q230, hR231, hT232⟩ := kTx_9 hE.2.2
      refine va_ldcS hx hb hown hR231 dX11_readPart_48 ?_
      refine kpurei (wc := [(h, oX11 th aw ai ab ac hi re aP ta x1 en x2 de fa a5 sp av an ak ne aW aC ag aT aN aF), (aP, .inl (cB, 400, .inl ft))]) hP hD hS hA [1, 2] rfl (by decide) (fun hPc hDc hFc => va_runV (As := [.ref q229]) (rest := []) ⟨hx, hb, hml, hown, hts⟩ (r_isWord l D cI cJ cB cC h th aw ai ab ac hi re aP ta x1 en x2 de fa a5 sp av an ak ne aW aC ag aT aN aF ft q229 kSb9 q230 H.size k3 H_en k4 kSb9_le) (cwV 1 hts gX11_readPart_X11_isWord rfl rfl rfl ⟨rfl, hdX11_isWord⟩ ⟨Nat.le_of_ble_eq_true rfl, Nat.le_of_ble_eq_true rfl⟩) ⟨kBlindT, va_recv hK hPc (ci := 10) (q0 := 0) rfl rfl, fun U hU hW => ⟨rfl, by rw [hU], hN.warm hW, hE.pass hS hFc hW hU, hT232.pass hS hFc hW hU, by rw [hU]; exact hPc, va_K.moved hW.alike hK, hDc⟩⟩ rfl rfl hl.1 rfl (lv_room (Nat.le_of_ble_eq_true rfl)) dX11_readPart_50 ⟨Nat.le_of_ble_eq_true rfl, Nat.le_of_ble_eq_true rfl⟩) (fun r233 u H locs hw hP hS => ?_)
      obtain ⟨k234, k235⟩ := hw
      refine lv_if_eq (tgt := 60) hx hb dX11_readPart_53 (by decide) (fun c236 => ?_) (fun c236 => ?_)
      · skip
        have k237 : Rg r233 0 0 := rg_q1 (eqI c236) k234 (rg_lit (n := 0) (by decide)) (by decide)
        refine lv_aload_n hx hb dX11_readPart_60 rfl (lv_at hl 0 rfl) ?_
        obtain ⟨q238, q239, hR240, hT241⟩ := kTx_10 hE.2.2
        refine va_ldcS hx hb hown hR240 dX11_readPart_61 ?_
        refine kpurei (wc := [(h, oX11 th aw ai ab ac hi re aP ta x1 en x2 de fa a5 sp av an ak ne aW aC ag aT aN aF), (aP, .inl (cB, 400, .inl ft))]) hP hD hS hA [1, 2] rfl (by decide) (fun hPc hDc hFc => va_runV (As := [.ref q238]) (rest := []) ⟨hx, hb, hml, hown, hts⟩ (r_isWord l D cI cJ cB cC h th aw ai ab ac hi re aP ta x1 en x2 de fa a5 sp av an ak ne aW aC ag aT aN aF ft q238 kSb10 q239 H.size k3 H_en k4 kSb10_le) (cwV 1 hts gX11_readPart_X11_isWord rfl rfl rfl ⟨rfl, hdX11_isWord⟩ ⟨Nat.le_of_ble_eq_true rfl, Nat.le_of_ble_eq_true rfl⟩) ⟨kBlindT, va_recv hK hPc (ci := 10) (q0 := 0) rfl rfl, fun U hU hW => ⟨rfl, by rw [hU], hN.warm hW, hE.pass hS hFc hW hU, hT241.pass hS hFc hW hU, by rw [hU]; exact hPc, va_K.moved hW.alike hK, hDc⟩⟩ rfl rfl hl.1 rfl (lv_room (Nat.le_of_ble_eq_true rfl)) dX11_readPart_63 ⟨Nat.le_of_ble_eq_true rfl, Nat.le_of_ble_eq_true rfl⟩) (fun r242 u H locs hw hP hS => ?_)
        obtain ⟨k243, k244⟩ := hw
        refine lv_if_eq (tgt := 73) hx hb dX11_readPart_66 (by decide) (fun c245 => ?_) (fun c245 => ?_)
        · skip
          have k246 : Rg r242 0 0 := rg_q1 (eqI c245) k243 (rg_lit (n := 0) (by decide)) (by decide)
          refine lv_aload_n hx hb dX11_readPart_73 rfl (lv_at hl 0 rfl) ?_
          obtain ⟨q247, q248, hR249, hT250⟩ := kTx_11 hE.2.2
          refine va_ldcS hx hb hown hR249 dX11_readPart_74 ?_
          refine kpurei (wc := [(h, oX11 th aw ai ab ac hi re aP ta x1 en x2 de fa a5 sp av an ak ne aW aC ag aT aN aF), (aP, .inl (cB, 400, .inl ft))]) hP hD hS hA [1, 2] rfl (by decide) (fun hPc hDc hFc => va_runV (As := [.ref q247]) (rest := []) ⟨hx, hb, hml, hown, hts⟩ (r_isWord l D cI cJ cB cC h th aw ai ab ac hi re aP ta x1 en x2 de fa a5 sp av an ak ne aW aC ag aT aN aF ft q247 kSb11 q248 H.size k3 H_en k4 kSb11_le) (cwV 1 hts gX11_readPart_X11_isWord rfl rfl rfl ⟨rfl, hdX11_isWord⟩ ⟨Nat.le_of_ble_eq_true rfl, Nat.le_of_ble_eq_true rfl⟩) ⟨kBlindT, va_recv hK hPc (ci := 10) (q0 := 0) rfl rfl, fun U hU hW => ⟨rfl, by rw [hU], hN.warm hW, hE.pass hS hFc hW hU, hT250.pass hS hFc hW hU, by rw [hU]; exact hPc, va_K.moved hW.alike hK, hDc⟩⟩ rfl rfl hl.1 rfl (lv_room (Nat.le_of_ble_eq_true rfl)) dX11_readPart_76 ⟨Nat.le_of_ble_eq_true rfl, Nat.le_of_ble_eq_true rfl⟩) (fun r251 u H locs hw hP hS => ?_)
          obtain ⟨k252, k253⟩ := hw
          refine lv_if_eq (tgt := 86) hx hb dX11_readPart_79 (by decide) (fun c254 => ?_) (fun c254 => ?_)
          · skip
            have k255 : Rg r251 0 0 := rg_q1 (eqI c254) k252 (rg_lit (n := 0) (by decide)) (by decide)
            refine lv_aload_n hx hb dX11_readPart_86 rfl (lv_at hl 0 rfl) ?_
            obtain ⟨q256, q257, hR258, hT259⟩ := kTx_24 hE.2.2
            refine va_ldcS hx hb hown hR258 dX11_readPart_87 ?_
            refine kpurei (wc := [(h, oX11 th aw ai ab ac hi re aP ta x1 en x2 de fa a5 sp av an ak ne aW aC ag aT aN aF), (aP, .inl (cB, 400, .inl ft))]) hP hD hS hA [1, 2] rfl (by decide) (fun hPc hDc hFc => va_runV (As := [.ref q256]) (rest := []) ⟨hx, hb, hml, hown, hts⟩ (r_isWord l D cI cJ cB cC h th aw ai ab ac hi re aP ta x1 en x2 de fa a5 sp av an ak ne aW aC ag aT aN aF ft q256 kSb24 q257 H.size k3 H_en k4 kSb24_le) (cwV 1 hts gX11_readPart_X11_isWord rfl rfl rfl ⟨rfl, hdX11_isWord⟩ ⟨Nat.le_of_ble_eq_true rfl, Nat.le_of_ble_eq_true rfl⟩) ⟨kBlindT, va_recv hK hPc (ci := 10) (q0 := 0) rfl rfl, fun U hU hW => ⟨rfl, by rw [hU], hN.warm hW, hE.pass hS hFc hW hU, hT259.pass hS hFc hW hU, by rw [hU]; exact hPc, va_K.moved hW.alike hK, hDc⟩⟩ rfl rfl hl.1 rfl (lv_room (Nat.le_of_ble_eq_true rfl)) dX11_readPart_89 ⟨Nat.le_of_ble_eq_true rfl, Nat.le_of_ble_eq_true rfl⟩) (fun r260 u H locs hw hP hS => ?_)
            obtain ⟨k261, k262⟩ := hw
            refine lv_if_eq (tgt := 99) hx hb dX11_readPart_92 (by decide) (fun c263 => ?_) (fun c263 => ?_)
            · skip
              have k264 : Rg r260 0 0 := rg_q1 (eqI c263) k261 (rg_lit (n := 0) (by decide)) (by decide)
              refine lv_aload_n hx hb dX11_readPart_99 rfl (lv_at hl 0 rfl) ?_
              obtain ⟨q265, q266, hR267, hT268⟩ := kTx_2 hE.2.2
              refine va_ldcS hx hb hown hR267 dX11_readPart_100 ?_
              refine kpurei (wc := [(h, oX11 th aw ai ab ac hi re aP ta x1 en x2 de fa a5 sp av an ak ne aW aC ag aT aN aF), (aP, .inl (cB, 400, .inl ft))]) hP hD hS hA [1, 2] rfl (by decide) (fun hPc hDc hFc => va_runV (As := [.ref q265]) (rest := []) ⟨hx, hb, hml, hown, hts⟩ (r_isWord l D cI cJ cB cC h th aw ai ab ac hi re aP ta x1 en x2 de fa a5 sp av an ak ne aW aC ag aT aN aF ft q265 kSb2 q266 H.size k3 H_en k4 kSb2_le) (cwV 1 hts gX11_readPart_X11_isWord rfl rfl rfl ⟨rfl, hdX11_isWord⟩ ⟨Nat.le_of_ble_eq_true rfl, Nat.le_of_ble_eq_true rfl⟩) ⟨kBlindT, va_recv hK hPc (ci := 10) (q0 := 0) rfl rfl, fun U hU hW => ⟨rfl, by rw [hU], hN.warm hW, hE.pass hS hFc hW hU, hT268.pass hS hFc hW hU, by rw [hU]; exact hPc, va_K.moved hW.alike hK, hDc⟩⟩ rfl rfl hl.1 rfl (lv_room (Nat.le_of_ble_eq_true rfl)) dX11_readPart_102 ⟨Nat.le_of_ble_eq_true rfl, Nat.le_of_ble_eq_true rfl⟩) (fun r269 u H locs hw hP hS => ?_)
              obtain ⟨k270, k271⟩ := hw
              refine lv_if_eq (tgt := 112) hx hb dX11_readPart_105 (by decide) (fun c272 => ?_) (fun c272 => ?_)
              · skip
                have k273 : Rg r269 0 0 := rg_q1 (eqI c272) k270 (rg_lit (n := 0) (by decide)) (by decide)
                refine lv_aload_n hx hb dX11_readPart_112 rfl (lv_at hl 0 rfl) ?_
                obtain ⟨q274, q275, hR276, hT277⟩ := kTx_25 hE.2.2
                refine va_ldcS hx hb hown hR276 dX11_readPart_113 ?_
                refine kpurei (wc := [(h, oX11 th aw ai ab ac hi re aP ta x1 en x2 de fa a5 sp av an ak ne aW aC ag aT aN aF), (aP, .inl (cB, 400, .inl ft))]) hP hD hS hA [1, 2] rfl (by decide) (fun hPc hDc hFc => va_runV (As := [.ref q274]) (rest := []) ⟨hx, hb, hml, hown, hts⟩ (r_isWord l D cI cJ cB cC h th aw ai ab ac hi re aP ta x1 en x2 de fa a5 sp av an ak ne aW aC ag aT aN aF ft q274 kSb25 q275 H.size k3 H_en k4 kSb25_le) (cwV 1 hts gX11_readPart_X11_isWord rfl rfl rfl ⟨rfl, hdX11_isWord⟩ ⟨Nat.le_of_ble_eq_true rfl, Nat.le_of_ble_eq_true rfl⟩) ⟨kBlindT, va_recv hK hPc (ci := 10) (q0 := 0) rfl rfl, fun U hU hW => ⟨rfl, by rw [hU], hN.warm hW, hE.pass hS hFc hW hU, hT277.pass hS hFc hW hU, by rw [hU]; exact hPc, va_K.moved hW.alike hK, hDc⟩⟩ rfl rfl hl.1 rfl (lv_room (Nat.le_of_ble_eq_true rfl)) dX11_readPart_115 ⟨Nat.le_of_ble_eq_true rfl, Nat.le_of_ble_eq_true rfl⟩) (fun r278 u H locs hw hP hS => ?_)
                obtain ⟨k279, k280⟩ := hw
                refine lv_if_eq (tgt := 126) hx hb dX11_readPart_118 (by decide) (fun c281 => ?_) (fun c281 => ?_)
                · skip
                  have k282 : Rg r278 0 0 := rg_q1 (eqI c281) k279 (rg_lit (n := 0) (by decide)) (by decide)
                  refine lv_aload_n hx hb dX11_readPart_126 rfl (lv_at hl 0 rfl) ?_
                  obtain ⟨q283, q284, hR285, hT286⟩ := kTx_3 hE.2.2
                  refine va_ldcS hx hb hown hR285 dX11_readPart_127 ?_
                  refine kpurei (wc := [(h, oX11 th aw ai ab ac hi re aP ta x1 en x2 de fa a5 sp av an ak ne aW aC ag aT aN aF), (aP, .inl (cB, 400, .inl ft))]) hP hD hS hA [1, 2] rfl (by decide) (fun hPc hDc hFc => va_runV (As := [.ref q283]) (rest := []) ⟨hx, hb, hml, hown, hts⟩ (r_isWord l D cI cJ cB cC h th aw ai ab ac hi re aP ta x1 en x2 de fa a5 sp av an ak ne aW aC ag aT aN aF ft q283 kSb3 q284 H.size k3 H_en k4 kSb3_le) (cwV 1 hts gX11_readPart_X11_isWord rfl rfl rfl ⟨rfl, hdX11_isWord⟩ ⟨Nat.le_of_ble_eq_true rfl, Nat.le_of_ble_eq_true rfl⟩) ⟨kBlindT, va_recv hK hPc (ci := 10) (q0 := 0) rfl rfl, fun U hU hW => ⟨rfl, by rw [hU], hN.warm hW, hE.pass hS hFc hW hU, hT286.pass hS hFc hW hU, by rw [hU]; exact hPc, va_K.moved hW.alike hK, hDc⟩⟩ rfl rfl hl.1 rfl (lv_room (Nat.le_of_ble_eq_true rfl)) dX11_readPart_129 ⟨Nat.le_of_ble_eq_true rfl, Nat.le_of_ble_eq_true rfl⟩) (fun r287 u H locs hw hP hS => ?_)
                  obtain ⟨k288, k289⟩ := hw
                  refine lv_if_eq (tgt := 140) hx hb dX11_readPart_132 (by decide) (fun c290 => ?_) (fun c290 => ?_)
                  · skip
                    have k291 : Rg r287 0 0 := rg_q1 (eqI c290) k288 (rg_lit (n := 0) (by decide)) (by decide)
                    refine lv_aload_n hx hb dX11_readPart_140 rfl (lv_at hl 0 rfl) ?_
                    obtain ⟨q292, q293, hR294, hT295⟩ := kTx_26 hE.2.2
                    refine va_ldcS hx hb hown hR294 dX11_readPart_141 ?_
                    refine kpurei (wc := [(h, oX11 th aw ai ab ac hi re aP ta x1 en x2 de fa a5 sp av an ak ne aW aC ag aT aN aF), (aP, .inl (cB, 400, .inl ft))]) hP hD hS hA [1, 2] rfl (by decide) (fun hPc hDc hFc => va_runV (As := [.ref q292]) (rest := []) ⟨hx, hb, hml, hown, hts⟩ (r_isWord l D cI cJ cB cC h th aw ai ab ac hi re aP ta x1 en x2 de fa a5 sp av an ak ne aW aC ag aT aN aF ft q292 kSb26 q293 H.size k3 H_en k4 kSb26_le) (cwV 1 hts gX11_readPart_X11_isWord rfl rfl rfl ⟨rfl, hdX11_isWord⟩ ⟨Nat.le_of_ble_eq_true rfl, Nat.le_of_ble_eq_true rfl⟩) ⟨kBlindT, va_recv hK hPc (ci := 10) (q0 := 0) rfl rfl, fun U hU hW => ⟨rfl, by rw [hU], hN.warm hW, hE.pass hS hFc hW hU, hT295.pass hS hFc hW hU, by rw [hU]; exact hPc, va_K.moved hW.alike hK, hDc⟩⟩ rfl rfl hl.1 rfl (lv_room (Nat.le_of_ble_eq_true rfl)) dX11_readPart_143 ⟨Nat.le_of_ble_eq_true rfl, Nat.le_of_ble_eq_true rfl⟩) (fun r296 u H locs hw hP hS => ?_)
                    obtain ⟨k297, k298⟩ := hw
                    refine lv_if_eq (tgt := 154) hx hb dX11_readPart_146 (by decide) (fun c299 => ?_) (fun c299 => ?_)
                    · skip
                      have k300 : Rg r296 0 0 := rg_q1 (eqI c299) k297 (rg_lit (n := 0) (by decide)) (by decide)
                      refine lv_iconst (v := (-1)) hx hb dX11_readPart_154 (by decide) ?_
                      exact hJ155 ((-1 : Int32)) _ _ _ ⟨(rg_w (rg_lit (n := -1) (by decide)) (by decide)), hP.sub (ws' := [(aw, .inl (cI, 2179, .inl fw)), (h, oX11 th aw ai ab ac hi re aP ta x1 en x2 de fa a5 sp av an ak ne aW aC ag aT aN aF), (aP, .inl (cB, 400, .inl ft))]) [0, 1, 2] rfl, hD.sub (ws' := [(aw, .inl (cI, 2179, .inl fw)), (h, oX11 th aw ai ab ac hi re aP ta x1 en x2 de fa a5 sp av an ak ne aW aC ag aT aN aF), (aP, .inl (cB, 400, .inl ft))]) [0, 1, 2] (by decide) rfl, hS, lv_sub (l' := [(0, .ref h)]) hl [0] rfl⟩
                    · skip
                      have k301 : Rg r296 1 1 := rg_n1 (neI c299) k297 (rg_lit (n := 0) (by decide)) (by decide)
                      refine lv_bipush (v := 8) hx hb dX11_readPart_149 (by decide) ?_
                      refine lv_goto (tgt := 155) hx hb dX11_readPart_151 (by decide) ?_
                      exact hJ155 ((8 : Int32)) _ _ _ ⟨(rg_w (rg_lit (n := 8) (by decide)) (by decide)), hP.sub (ws' := [(aw, .inl (cI, 2179, .inl fw)), (h, oX11 th aw ai ab ac hi re aP ta x1 en x2 de fa a5 sp av an ak ne aW aC ag aT aN aF), (aP, .inl (cB, 400, .inl ft))]) [0, 1, 2] rfl, hD.sub (ws' := [(aw, .inl (cI, 2179, .inl fw)), (h, oX11 th aw ai ab ac hi re aP ta x1 en x2 de fa a5 sp av an ak ne aW aC ag aT aN aF), (aP, .inl (cB, 400, .inl ft))]) [0, 1, 2] (by decide) rfl, hS, lv_sub (l' := [(0, .ref h)]) hl [0] rfl⟩
                  · skip
                    have k302 : Rg r287 1 1 := rg_n1 (neI c290) k288 (rg_lit (n := 0) (by decide)) (by decide)
                    refine lv_bipush (v := 7) hx hb dX11_readPart_135 (by decide) ?_
                    refine lv_goto (tgt := 155) hx hb dX11_readPart_137 (by decide) ?_
                    exact hJ155 ((7 : Int32)) _ _ _ ⟨(rg_w (rg_lit (n := 7) (by decide)) (by decide)), hP.sub (ws' := [(aw, .inl (cI, 2179, .inl fw)), (h, oX11 th aw ai ab ac hi re aP ta x1 en x2 de fa a5 sp av an ak ne aW aC ag aT aN aF), (aP, .inl (cB, 400, .inl ft))]) [0, 1, 2] rfl, hD.sub (ws' := [(aw, .inl (cI, 2179, .inl fw)), (h, oX11 th aw ai ab ac hi re aP ta x1 en x2 de fa a5 sp av an ak ne aW aC ag aT aN aF), (aP, .inl (cB, 400, .inl ft))]) [0, 1, 2] (by decide) rfl, hS, lv_sub (l' := [(0, .ref h)]) hl [0] rfl⟩
                · skip
                  have k303 : Rg r278 1 1 := rg_n1 (neI c281) k279 (rg_lit (n := 0) (by decide)) (by decide)
                  refine lv_bipush (v := 6) hx hb dX11_readPart_121 (by decide) ?_
                  refine lv_goto (tgt := 155) hx hb dX11_readPart_123 (by decide) ?_
                  exact hJ155 ((6 : Int32)) _ _ _ ⟨(rg_w (rg_lit (n := 6) (by decide)) (by decide)), hP.sub (ws' := [(aw, .inl (cI, 2179, .inl fw)), (h, oX11 th aw ai ab ac hi re aP ta x1 en x2 de fa a5 sp av an ak ne aW aC ag aT aN aF), (aP, .inl (cB, 400, .inl ft))]) [0, 1, 2] rfl, hD.sub (ws' := [(aw, .inl (cI, 2179, .inl fw)), (h, oX11 th aw ai ab ac hi re aP ta x1 en x2 de fa a5 sp av an ak ne aW aC ag aT aN aF), (aP, .inl (cB, 400, .inl ft))]) [0, 1, 2] (by decide) rfl, hS, lv_sub (l' := [(0, .ref h)]) hl [0] rfl⟩
              · skip
                have k304 : Rg r269 1 1 := rg_n1 (neI c272) k270 (rg_lit (n := 0) (by decide)) (by decide)
                refine lv_iconst (v := 5) hx hb dX11_readPart_108 (by decide) ?_
                refine lv_goto (tgt := 155) hx hb dX11_readPart_109 (by decide) ?_
                exact hJ155 ((5 : Int32)) _ _ _ ⟨(rg_w (rg_lit (n := 5) (by decide)) (by decide)), hP.sub (ws' := [(aw, .inl (cI, 2179, .inl fw)), (h, oX11 th aw ai ab ac hi re aP ta x1 en x2 de fa a5 sp av an ak ne aW aC ag aT aN aF), (aP, .inl (cB, 400, .inl ft))]) [0, 1, 2] rfl, hD.sub (ws' := [(aw, .inl (cI, 2179, .inl fw)), (h, oX11 th aw ai ab ac hi re aP ta x1 en x2 de fa a5 sp av an ak ne aW aC ag aT aN aF), (aP, .inl (cB, 400, .inl ft))]) [0, 1, 2] (by decide) rfl, hS, lv_sub (l' := [(0, .ref h)]) hl [0] rfl⟩
            · skip
              have k305 : Rg r260 1 1 := rg_n1 (neI c263) k261 (rg_lit (n := 0) (by decide)) (by decide)
              refine lv_iconst (v := 4) hx hb dX11_readPart_95 (by decide) ?_
              refine lv_goto (tgt := 155) hx hb dX11_readPart_96 (by decide) ?_
              exact hJ155 ((4 : Int32)) _ _ _ ⟨(rg_w (rg_lit (n := 4) (by decide)) (by decide)), hP.sub (ws' := [(aw, .inl (cI, 2179, .inl fw)), (h, oX11 th aw ai ab ac hi re aP ta x1 en x2 de fa a5 sp av an ak ne aW aC ag aT aN aF), (aP, .inl (cB, 400, .inl ft))]) [0, 1, 2] rfl, hD.sub (ws' := [(aw, .inl (cI, 2179, .inl fw)), (h, oX11 th aw ai ab ac hi re aP ta x1 en x2 de fa a5 sp av an ak ne aW aC ag aT aN aF), (aP, .inl (cB, 400, .inl ft))]) [0, 1, 2] (by decide) rfl, hS, lv_sub (l' := [(0, .ref h)]) hl [0] rfl⟩
          · skip
            have k306 : Rg r251 1 1 := rg_n1 (neI c254) k252 (rg_lit (n := 0) (by decide)) (by decide)
            refine lv_iconst (v := 3) hx hb dX11_readPart_82 (by decide) ?_
            refine lv_goto (tgt := 155) hx hb dX11_readPart_83 (by decide) ?_
            exact hJ155 ((3 : Int32)) _ _ _ ⟨(rg_w (rg_lit (n := 3) (by decide)) (by decide)), hP.sub (ws' := [(aw, .inl (cI, 2179, .inl fw)), (h, oX11 th aw ai ab ac hi re aP ta x1 en x2 de fa a5 sp av an ak ne aW aC ag aT aN aF), (aP, .inl (cB, 400, .inl ft))]) [0, 1, 2] rfl, hD.sub (ws' := [(aw, .inl (cI, 2179, .inl fw)), (h, oX11 th aw ai ab ac hi re aP ta x1 en x2 de fa a5 sp av an ak ne aW aC ag aT aN aF), (aP, .inl (cB, 400, .inl ft))]) [0, 1, 2] (by decide) rfl, hS, lv_sub (l' := [(0, .ref h)]) hl [0] rfl⟩
        · skip
          have k307 : Rg r242 1 1 := rg_n1 (neI c245) k243 (rg_lit (n := 0) (by decide)) (by decide)
          refine lv_iconst (v := 2) hx hb dX11_readPart_69 (by decide) ?_
          refine lv_goto (tgt := 155) hx hb dX11_readPart_70 (by decide) ?_
          exact hJ155 ((2 : Int32)) _ _ _ ⟨(rg_w (rg_lit (n := 2) (by decide)) (by decide)), hP.sub (ws' := [(aw, .inl (cI, 2179, .inl fw)), (h, oX11 th aw ai ab ac hi re aP ta x1 en x2 de fa a5 sp av an ak ne aW aC ag aT aN aF), (aP, .inl (cB, 400, .inl ft))]) [0, 1, 2] rfl, hD.sub (ws' := [(aw, .inl (cI, 2179, .inl fw)), (h, oX11 th aw ai ab ac hi re aP ta x1 en x2 de fa a5 sp av an ak ne aW aC ag aT aN aF), (aP, .inl (cB, 400, .inl ft))]) [0, 1, 2] (by decide) rfl, hS, lv_sub (l' := [(0, .ref h)]) hl [0] rfl⟩
      · skip
        have k308 : Rg r233 1 1 := rg_n1 (neI c236) k234 (rg_lit (n := 0) (by decide)) (by decide)
        refine lv_iconst (v := 1) hx hb dX11_readPart_56 (by decide) ?_
        refine lv_goto (tgt := 155) hx hb dX11_readPart_57 (by decide) ?_
        exact hJ155 ((1 : Int32)) _ _ _ ⟨(rg_w (rg_lit (n := 1) (by decide)) (by decide)), hP.sub (ws' := [(aw, .inl (cI, 2179, .inl fw)), (h, oX11 th aw ai ab ac hi re aP ta x1 en x2 de fa a5 sp av an ak ne aW aC ag aT aN aF), (aP, .inl (cB, 400, .inl ft))]) [0, 1, 2] rfl, hD.sub (ws' := [(aw, .inl (cI, 2179, .inl fw)), (h, oX11 th aw ai ab ac hi re aP ta x1 en x2 de fa a5 sp av an ak ne aW aC ag aT aN aF), (aP, .inl (cB, 400, .inl ft))]) [0, 1, 2] (by decide) rfl, hS, lv_sub (l' := [(0, .ref h)]) hl [0] rfl⟩
    · skip
      have k309 : Rg r126 1 1 := rg_n1 (neI c227) k127 (rg_lit (n := 0) (by decide)) (by decide)
      refine lv_iconst (v := 0) hx hb dX11_readPart_43 (by decide) ?_
      refine lv_goto (tgt := 155) hx hb dX11_readPart_44 (by decide) ?_
      exact hJ155 ((0 : Int32)) _ _ _ ⟨(rg_w (rg_lit (n := 0) (by decide)) (by decide)), hP.sub (ws' := [(aw, .inl (cI, 2179, .inl fw)), (h, oX11 th aw ai ab ac hi re aP ta x1 en x2 de fa a5 sp av an ak ne aW aC ag aT aN aF), (aP, .inl (cB, 400, .inl ft))]) [0, 1, 2] rfl, hD.sub (ws' := [(aw, .inl (cI, 2179, .inl fw)), (h, oX11 th aw ai ab ac hi re aP ta x1 en x2 de fa a5 sp av an ak ne aW aC ag aT aN aF), (aP, .inl (cB, 400, .inl ft))]) [0, 1, 2] (by decide) rfl, hS, lv_sub (l' := [(0, .ref h)]) hl [0] rfl⟩
  · skip
    refine lv_aload_n hx hb dX11_readPart_15 rfl (lv_at hl 0 rfl) ?_
    refine lv_iconst (v := 0) hx hb dX11_readPart_16 (by decide) ?_
    refine lv_sipush (v := 999) hx hb dX11_readPart_17 (by decide) ?_
    refine kcalli (wc := [(h, oX11 th aw ai ab ac hi re aP ta x1 en x2 de fa a5 sp av an ak ne aW aC ag aT aN aF), (aP, .inl (cB, 400, .inl ft))]) (wr := [(aw, .inl (cI, 2179, .inl fw))]) hP hD hS hA [1, 2] [0] rfl rfl (by decide) (by decide) (by decide) (fun hPc hDc hFc => va_runV (As := [.int 0, .int 999]) (rest := []) ⟨hx, hb, hml, hown, hts⟩ (r_number_999 l D cI cJ cB cC h th aw ai ab ac hi re aP ta x1 en x2 de fa a5 sp av an ak ne aW aC ag aT aN aF ft H.size k3 H_en) (cwV 2 hts gX11_readPart_X11_number rfl rfl rfl ⟨rfl, hdX11_number⟩ ⟨Nat.le_of_ble_eq_true rfl, Nat.le_of_ble_eq_true rfl⟩) ⟨kBlind, va_recv hK hPc (ci := 10) (q0 := 0) rfl rfl, fun U hU hW => ⟨rfl, by rw [hU], hN.warm hW, hE.pass hS hFc hW hU, by rw [hU]; exact hPc, va_K.moved hW.alike hK, hDc⟩⟩ rfl rfl hl.1 rfl (lv_room (Nat.le_of_ble_eq_true rfl)) dX11_readPart_20 ⟨Nat.le_of_ble_eq_true rfl, Nat.le_of_ble_eq_true rfl⟩) (fun r310 u H locs hw hP hD hS => ?_)
    obtain ⟨x311, x312⟩ := u
    have hP : va_P D vwCl [(aw, .inl (cI, 2179, .inl fw)), (h, oX11 th aw ai ab ac hi re aP ta x311 en x312 de fa a5 sp av an ak ne aW aC ag aT aN aF), (aP, .inl (cB, 400, .inl ft))] H := hP
    have hD : va_D A [(aw, .inl (cI, 2179, .inl fw)), (h, oX11 th aw ai ab ac hi re aP ta x311 en x312 de fa a5 sp av an ak ne aW aC ag aT aN aF), (aP, .inl (cB, 400, .inl ft))] := hD
    obtain ⟨k313, k314, k315, k316, k317⟩ := hw
    refine lv_istore_n (lv' := [(1, .int r310), (0, .ref h)]) hx hb dX11_readPart_23 rfl hl (by decide) rfl (fun ls hl => ?_)
    refine lv_aload_n hx hb dX11_readPart_24 rfl (lv_at hl 1 rfl) ?_
    refine lv_bipush (v := 12) hx hb dX11_readPart_25 (by decide) ?_
    refine lv_iload_n hx hb dX11_readPart_27 rfl (lv_at hl 0 rfl) ?_
    refine kcallv (wc := [(h, oX11 th aw ai ab ac hi re aP ta x311 en x312 de fa a5 sp av an ak ne aW aC ag aT aN aF), (aw, .inl (cI, 2179, .inl fw))]) (wr := [(aP, .inl (cB, 400, .inl ft))]) hP hD hS hA [1, 0] [2] rfl rfl (by decide) (by decide) (by decide) (fun hPc hDc hFc => va_runV (As := [.int 12, .int r310]) (rest := []) ⟨hx, hb, hml, hown, hts⟩ (r_emits l D cI cJ cB cC h th aw ai ab ac hi re aP ta x311 en x312 de fa a5 sp av an ak ne aW aC ag aT aN aF fw 12 r310 H.size (rg_w H_sp (by decide)) H_fw_W H_fw_B H_fw_L) (cwV 2 hts gX11_readPart_X11_emits rfl rfl rfl ⟨rfl, hdX11_emits⟩ ⟨Nat.le_of_ble_eq_true rfl, Nat.le_of_ble_eq_true rfl⟩) ⟨kBlind, va_recv hK hPc (ci := 10) (q0 := 0) rfl rfl, fun U hU hW => ⟨rfl, by rw [hU], hN.warm hW, hE.pass hS hFc hW hU, by rw [hU]; exact hPc, va_K.moved hW.alike hK, hDc⟩⟩ rfl rfl hl.1 rfl (lv_room (Nat.le_of_ble_eq_true rfl)) dX11_readPart_28 ⟨Nat.le_of_ble_eq_true rfl, Nat.le_of_ble_eq_true rfl⟩) (fun u H locs hw hP hD hS => ?_)
    obtain ⟨x318, g319⟩ := u
    have hP : va_P D vwCl [(aP, .inl (cB, 400, .inl ft)), (h, oX11 th aw ai ab ac hi re aP ta x311 en x312 de fa a5 x318 av an ak ne aW aC ag aT aN aF), (aw, .inl (cI, 2179, .inl g319))] H := hP
    have hD : va_D A [(aP, .inl (cB, 400, .inl ft)), (h, oX11 th aw ai ab ac hi re aP ta x311 en x312 de fa a5 x318 av an ak ne aW aC ag aT aN aF), (aw, .inl (cI, 2179, .inl g319))] := hD
    obtain ⟨k320, k321, k322, k323, k324⟩ := hw
    refine lv_goto (tgt := 162) hx hb dX11_readPart_31 (by decide) ?_
    refine lv_iload_n hx hb dX11_readPart_162 rfl (lv_at hl 0 rfl) ?_
    refine lv_if_lt (tgt := 170) hx hb dX11_readPart_163 (by decide) (fun c328 => ?_) (fun c328 => ?_)
    · skip
      have k329 : Rg r310 (-1) (-1) := rg_l1 (ltI c328) k315 (rg_lit (n := 0) (by decide)) (by decide)
      refine lv_iconst (v := 0) hx hb dX11_readPart_170 (by decide) ?_
      have hP9 := hP.sub (ws' := [(h, oX11 th aw ai ab ac hi re aP ta x311 en x312 de fa a5 x318 av an ak ne aW aC ag aT aN aF), (aw, .inl (cI, 2179, .inl g319)), (aP, .inl (cB, 400, .inl ft))]) [1, 2, 0] rfl
      have hD9 := hD.sub (ws' := [(h, oX11 th aw ai ab ac hi re aP ta x311 en x312 de fa a5 x318 av an ak ne aW aC ag aT aN aF), (aw, .inl (cI, 2179, .inl g319)), (aP, .inl (cB, 400, .inl ft))]) [1, 2, 0] (by decide) rfl
      exact W.zret (v := 0) hx hb hr (by decide) (fun t ht hW => ⟨⟨0, (x311, x312, x318, g319), rfl, ⟨k313, k314, k320, k321, k322, k323, (Or.inl rfl)⟩, by rw [ht]; exact hP9, va_K.moved hW.alike hK, hD9⟩, hS.F ht⟩) hS.2.2 dX11_readPart_171
    · skip
      have k330 : Rg r310 0 999 := rg_e2 (nltI c328) (rg_lit (n := 0) (by decide)) k315 (by decide)
      refine lv_iconst (v := 1) hx hb dX11_readPart_166 (by decide) ?_
      refine lv_goto (tgt := 171) hx hb dX11_readPart_167 (by decide) ?_
      have hP9 := hP.sub (ws' := [(h, oX11 th aw ai ab ac hi re aP ta x311 en x312 de fa a5 x318 av an ak ne aW aC ag aT aN aF), (aw, .inl (cI, 2179, .inl g319)), (aP, .inl (cB, 400, .inl ft))]) [1, 2, 0] rfl
      have hD9 := hD.sub (ws' := [(h, oX11 th aw ai ab ac hi re aP ta x311 en x312 de fa a5 x318 av an ak ne aW aC ag aT aN aF), (aw, .inl (cI, 2179, .inl g319)), (aP, .inl (cB, 400, .inl ft))]) [1, 2, 0] (by decide) rfl
      exact W.zret (v := 1) hx hb hr (by decide) (fun t ht hW => ⟨⟨1, (x311, x312, x318, g319), rfl, ⟨k313, k314, k320, k321, k322, k323, (Or.inr ⟨rfl, (rOk_part k324 (by decide) (by have q0 := H_SP; have q1 := k5; have q3 := k6; have q4 := (eqI c121); have q5 := k316; have q7 := k317; obtain ⟨-, -, u8, -⟩ := k324; have q10 := (nltI c328); have q11 : (0 : Int32).toInt = 0 := (by decide); have q12 : (1 : Int32).toInt = 1 := (by decide); unfold Rg at *; omega))⟩)⟩, by rw [ht]; exact hP9, va_K.moved hW.alike hK, hD9⟩, hS.F ht⟩) hS.2.2 dX11_readPart_171

def kwX11_readSum : List Cond := .code yX11_readSum cX11_readSum 1 (some .boolean) :: kG
theorem hdX11_readSum : yX11_readSum.cls ≠ "java/lang/invoke/MethodHandle" ∧ yX11_readSum.cls ≠ "java/lang/invoke/VarHandle" ∧ (parseMethodDescriptor yX11_readSum.desc).map (fun d => d.parameters.length) = some 0 := by decide +kernel
theorem gX11_readSum_X11_emits : GoodIn kG (wsV RX11 184 RX11 yX11_emits kwX11_emits) := gK w22_5 (gK w22_6 (gK w22_7 (gK w0_5 (gK w22_8 gGG))))
theorem gX11_readSum_X11_readPart : GoodIn kG (wsV RX11 195 RX11 yX11_readPart kwX11_readPart) := gK w23_2 (gK w23_3 (gK w23_4 (gK w0_5 (gK w23_5 gGG))))
theorem gX11_readSum_X11_sign : GoodIn kG (wsV RX11 198 RX11 yX11_sign kwX11_sign) := gK w22_14 (gK w22_15 (gK w22_16 (gK w0_5 (gK w22_17 gGG))))
theorem dX11_readSum_0 : decode cX11_readSum 0 = .ok (.aload_n 0, 1) := by decide +kernel
theorem dX11_readSum_1 : decode cX11_readSum 1 = .ok (.invokevirtual 195, 3) := by decide +kernel
theorem dX11_readSum_4 : decode cX11_readSum 4 = .ok (.ifCond .ne 5, 3) := by decide +kernel
theorem dX11_readSum_7 : decode cX11_readSum 7 = .ok (.iconst 0, 1) := by decide +kernel
theorem dX11_readSum_8 : decode cX11_readSum 8 = .ok (.ireturn, 1) := by decide +kernel
theorem dX11_readSum_9 : decode cX11_readSum 9 = .ok (.aload_n 0, 1) := by decide +kernel
theorem dX11_readSum_10 : decode cX11_readSum 10 = .ok (.bipush 43, 2) := by decide +kernel
theorem dX11_readSum_12 : decode cX11_readSum 12 = .ok (.invokevirtual 198, 3) := by decide +kernel
theorem dX11_readSum_15 : decode cX11_readSum 15 = .ok (.ifCond .eq 22, 3) := by decide +kernel
theorem dX11_readSum_18 : decode cX11_readSum 18 = .ok (.aload_n 0, 1) := by decide +kernel
theorem dX11_readSum_19 : decode cX11_readSum 19 = .ok (.invokevirtual 195, 3) := by decide +kernel
theorem dX11_readSum_22 : decode cX11_readSum 22 = .ok (.ifCond .ne 5, 3) := by decide +kernel
theorem dX11_readSum_25 : decode cX11_readSum 25 = .ok (.iconst 0, 1) := by decide +kernel
theorem dX11_readSum_26 : decode cX11_readSum 26 = .ok (.ireturn, 1) := by decide +kernel
theorem dX11_readSum_27 : decode cX11_readSum 27 = .ok (.aload_n 0, 1) := by decide +kernel
theorem dX11_readSum_28 : decode cX11_readSum 28 = .ok (.bipush 13, 2) := by decide +kernel
theorem dX11_readSum_30 : decode cX11_readSum 30 = .ok (.iconst 0, 1) := by decide +kernel
theorem dX11_readSum_31 : decode cX11_readSum 31 = .ok (.invokevirtual 184, 3) := by decide +kernel
theorem dX11_readSum_34 : decode cX11_readSum 34 = .ok (.goto (-25), 3) := by decide +kernel
theorem dX11_readSum_37 : decode cX11_readSum 37 = .ok (.iconst 1, 1) := by decide +kernel
theorem dX11_readSum_38 : decode cX11_readSum 38 = .ok (.ireturn, 1) := by decide +kernel
set_option maxHeartbeats 4000000 in
set_option maxRecDepth 100000 in
/-- reference: readSum -/
theorem r_readSum (l : Launch) (D : va_G) (cI cJ cB cC : ClassId) (h : Nat) (th : Int32) (aw : Nat) (ai : Nat) (ab : Nat) (ac : Nat) (hi : Int32) (re : Int32) (aP : Nat) (ta : Int32) (po : Int32) (en : Int32) (be : Int32) (de : Int32) (fa : Int32) (a5 : Nat) (sp : Int32) (av : Nat) (an : Nat) (ak : Nat) (ne : Int32) (aW : Nat) (aC : Nat) (ag : Nat) (aT : Nat) (aN : Nat) (aF : Nat) (fw : Nat → Int32) (ft : Nat → Int32) (sz : Nat) (H_po : Rg po 0 400) (H_en : Rg en 0 400) (H_sp : Rg sp 0 395) (H_fw_W : wW fw) (H_fw_B : wB fw) (H_fw_L : wL fw) (H_SP : (sp : Int32).toInt + 5 ≤ (po : Int32).toInt) : Met l yX11_readSum kwX11_readSum ({ frames := 6, cells := 0, slots := 0, locals := 129 } : Room) (kPre D (kT cI cJ cB cC) sz [(h, oX11 th aw ai ab ac hi re aP ta po en be de fa a5 sp av an ak ne aW aC ag aT aN aF), (aw, .inl (cI, 2179, .inl fw)), (aP, .inl (cB, 400, .inl ft))] [.ref h]) (va_Qi (fun (r : Int32) (uu : Int32 × Int32 × Int32 × (Nat → Int32)) => match uu with | (n0_, n1_, n2_, f3_) => Rg n0_ 0 400 ∧ Rg n1_ 0 400 ∧ Rg n2_ 0 400 ∧ wB f3_ ∧ wL f3_ ∧ wW f3_ ∧ ((r = 0) ∨ (r = 1 ∧ rOk fw f3_ sp n2_ po n0_ 1))) (fun (uu : Int32 × Int32 × Int32 × (Nat → Int32)) (t : State) => match uu with | (n0_, n1_, n2_, f3_) => kB D (kT cI cJ cB cC) (va_A [(h, oX11 th aw ai ab ac hi re aP ta po en be de fa a5 sp av an ak ne aW aC ag aT aN aF), (aw, .inl (cI, 2179, .inl fw)), (aP, .inl (cB, 400, .inl ft))] sz) [(h, oX11 th aw ai ab ac hi re aP ta n0_ en n1_ de fa a5 n2_ av an ak ne aW aC ag aT aN aF), (aw, .inl (cI, 2179, .inl f3_)), (aP, .inl (cB, 400, .inl ft))] t) (va_A [(h, oX11 th aw ai ab ac hi re aP ta po en be de fa a5 sp av an ak ne aW aC ag aT aN aF), (aw, .inl (cI, 2179, .inl fw)), (aP, .inl (cB, 400, .inl ft))] sz)) 0 0 (va_A [(h, oX11 th aw ai ab ac hi re aP ta po en be de fa a5 sp av an ak ne aW aC ag aT aN aF), (aw, .inl (cI, 2179, .inl fw)), (aP, .inl (cB, 400, .inl ft))] sz) := by
  refine Met.ofW (cc := cX11_readSum) (maxL := 1) (ret := (some .boolean)) (by decide) rfl ?_
  intro p e s m args below meth c s₁ B hml hv
  obtain ⟨rfl, hsz, hN, hE, hP, hK, hD0⟩ := hv
  have hx := B.exec
  have hb := B.bytes
  have hr := B.returns
  have hts := fun (w : Cond) (h : w ∈ kG) => atoms_spec (ws := kwX11_readSum) B.pre w (List.mem_cons_of_mem _ h)
  have hown : s.vm.findClass RX11 = some m.cls := findClass_of_methodNamed B.named
  subst hsz
  have hD := hD0.self (sz := s.heap.size)
  generalize hAe : va_A [(h, oX11 th aw ai ab ac hi re aP ta po en be de fa a5 sp av an ak ne aW aC ag aT aN aF), (aw, .inl (cI, 2179, .inl fw)), (aP, .inl (cB, 400, .inl ft))] s.heap.size = A at hD hE ⊢
  have hA : ∀ q : Nat, s.heap.size ≤ q → A q := fun q h => by rw [← hAe]; exact Or.inr h
  have hl := lv_entry ([.ref h]) (n := 1) (Nat.le_of_ble_eq_true rfl)
  rw [lg_entry_eq]
  generalize (lg_sl ([.ref h]) ++ List.replicate (1 - (lg_sl ([.ref h])).length) Slot.unset).toArray = ls at hl ⊢
  have hl : lv_has ls 1 [(0, .ref h)] := hl
  obtain ⟨H, hH0⟩ : ∃ H, H = s.heap := ⟨_, rfl⟩
  have hS : va_S A s.heap H [] := by rw [hH0]; exact va_S.rf
  have hP : va_P D vwCl [(h, oX11 th aw ai ab ac hi re aP ta po en be de fa a5 sp av an ak ne aW aC ag aT aN aF), (aw, .inl (cI, 2179, .inl fw)), (aP, .inl (cB, 400, .inl ft))] H := by rw [hH0]; exact hP
  refine kHeap hH0 ?_
  clear hH0
  refine lv_aload_n hx hb dX11_readSum_0 rfl (lv_at hl 0 rfl) ?_
  refine kcalli (wc := [(h, oX11 th aw ai ab ac hi re aP ta po en be de fa a5 sp av an ak ne aW aC ag aT aN aF), (aw, .inl (cI, 2179, .inl fw)), (aP, .inl (cB, 400, .inl ft))]) (wr := []) hP hD hS hA [0, 1, 2] [] rfl rfl (by decide) (by decide) (by decide) (fun hPc hDc hFc => va_runV (As := []) (rest := []) ⟨hx, hb, hml, hown, hts⟩ (r_readPart l D cI cJ cB cC h th aw ai ab ac hi re aP ta po en be de fa a5 sp av an ak ne aW aC ag aT aN aF fw ft H.size H_po H_en H_sp H_fw_W H_fw_B H_fw_L H_SP) (cwV 0 hts gX11_readSum_X11_readPart rfl rfl rfl ⟨rfl, hdX11_readPart⟩ ⟨Nat.le_of_ble_eq_true rfl, Nat.le_of_ble_eq_true rfl⟩) ⟨kBlind, va_recv hK hPc (ci := 10) (q0 := 0) rfl rfl, fun U hU hW => ⟨rfl, by rw [hU], hN.warm hW, hE.pass hS hFc hW hU, by rw [hU]; exact hPc, va_K.moved hW.alike hK, hDc⟩⟩ rfl rfl hl.1 rfl (lv_room (Nat.le_of_ble_eq_true rfl)) dX11_readSum_1 ⟨Nat.le_of_ble_eq_true rfl, Nat.le_of_ble_eq_true rfl⟩) (fun r1 u H locs hw hP hD hS => ?_)
  obtain ⟨x2, x3, x4, g5⟩ := u
  have hP : va_P D vwCl [(h, oX11 th aw ai ab ac hi re aP ta x2 en x3 de fa a5 x4 av an ak ne aW aC ag aT aN aF), (aw, .inl (cI, 2179, .inl g5)), (aP, .inl (cB, 400, .inl ft))] H := hP
  have hD : va_D A [(h, oX11 th aw ai ab ac hi re aP ta x2 en x3 de fa a5 x4 av an ak ne aW aC ag aT aN aF), (aw, .inl (cI, 2179, .inl g5)), (aP, .inl (cB, 400, .inl ft))] := hD
  obtain ⟨k6, k7, k8, k9, k10, k11, hw⟩ := hw
  rcases hw with rfl | ⟨rfl, kc12_0⟩
  · skip
    refine lv_if_ne (tgt := 9) hx hb dX11_readSum_4 (by decide) (fun c13 => absurd (by decide) c13) (fun _ => ?_)
    refine lv_iconst (v := 0) hx hb dX11_readSum_7 (by decide) ?_
    have hP9 := hP.sub (ws' := [(h, oX11 th aw ai ab ac hi re aP ta x2 en x3 de fa a5 x4 av an ak ne aW aC ag aT aN aF), (aw, .inl (cI, 2179, .inl g5)), (aP, .inl (cB, 400, .inl ft))]) [0, 1, 2] rfl
    have hD9 := hD.sub (ws' := [(h, oX11 th aw ai ab ac hi re aP ta x2 en x3 de fa a5 x4 av an ak ne aW aC ag aT aN aF), (aw, .inl (cI, 2179, .inl g5)), (aP, .inl (cB, 400, .inl ft))]) [0, 1, 2] (by decide) rfl
    exact W.zret (v := 0) hx hb hr (by decide) (fun t ht hW => ⟨⟨0, (x2, x3, x4, g5), rfl, ⟨k6, k7, (rg_w k8 (by decide)), k9, k10, k11, (Or.inl rfl)⟩, by rw [ht]; exact hP9, va_K.moved hW.alike hK, hD9⟩, hS.F ht⟩) hS.2.2 dX11_readSum_8
  · skip
    refine lv_if_ne (tgt := 9) hx hb dX11_readSum_4 (by decide) (fun _ => ?_) (fun c14 => absurd c14 (by decide))
    refine k_loop (hd := 9) (fun (u : Int32 × Int32 × Int32 × (Nat → Int32)) => match u with | (y159, y160, y161, g162) => (400 - (y159).toInt).toNat) (fun (u : Int32 × Int32 × Int32 × (Nat → Int32)) (H : Heap) (locs : List Loc) (ls : Array Slot) => match u with | (y159, y160, y161, g162) => (rOk fw g162 sp y161 po y159 1) ∧ Rg y159 0 400 ∧ Rg y160 0 400 ∧ Rg y161 1 400 ∧ wB g162 ∧ wL g162 ∧ wW g162 ∧ va_P D vwCl [(h, oX11 th aw ai ab ac hi re aP ta y159 en y160 de fa a5 y161 av an ak ne aW aC ag aT aN aF), (aw, .inl (cI, 2179, .inl g162)), (aP, .inl (cB, 400, .inl ft))] H ∧ va_D A [(h, oX11 th aw ai ab ac hi re aP ta y159 en y160 de fa a5 y161 av an ak ne aW aC ag aT aN aF), (aw, .inl (cI, 2179, .inl g162)), (aP, .inl (cB, 400, .inl ft))] ∧ va_S A s.heap H locs ∧ lv_has ls 1 [(0, .ref h)]) (x2, x3, x4, g5) ⟨kc12_0, k6, k7, k8, k9, k10, k11, hP.sub (ws' := [(h, oX11 th aw ai ab ac hi re aP ta x2 en x3 de fa a5 x4 av an ak ne aW aC ag aT aN aF), (aw, .inl (cI, 2179, .inl g5)), (aP, .inl (cB, 400, .inl ft))]) [0, 1, 2] rfl, hD.sub (ws' := [(h, oX11 th aw ai ab ac hi re aP ta x2 en x3 de fa a5 x4 av an ak ne aW aC ag aT aN aF), (aw, .inl (cI, 2179, .inl g5)), (aP, .inl (cB, 400, .inl ft))]) [0, 1, 2] (by decide) rfl, hS, lv_sub (l' := [(0, .ref h)]) hl [0] rfl⟩ (fun u H locs ls hI ih163 => ?_)
    clear hP hD hS hl
    obtain ⟨y159, y160, y161, g162⟩ := u
    obtain ⟨hX9_0, hy159, hy160, hy161, hg162_0, hg162_1, hg162_2, hP, hD, hS, hl⟩ := hI
    have hP : va_P D vwCl [(h, oX11 th aw ai ab ac hi re aP ta y159 en y160 de fa a5 y161 av an ak ne aW aC ag aT aN aF), (aw, .inl (cI, 2179, .inl g162)), (aP, .inl (cB, 400, .inl ft))] H := hP
    have hD : va_D A [(h, oX11 th aw ai ab ac hi re aP ta y159 en y160 de fa a5 y161 av an ak ne aW aC ag aT aN aF), (aw, .inl (cI, 2179, .inl g162)), (aP, .inl (cB, 400, .inl ft))] := hD
    have hl : lv_has ls 1 [(0, .ref h)] := hl
    have k164 : Rg y161 0 395 := (by obtain ⟨-, -, u1, u2, u3⟩ := hX9_0; have q1 := H_SP; have q2 := hy159; have q3 := hy161; unfold Rg at *; exact ⟨by omega, by omega⟩)
    refine lv_aload_n hx hb dX11_readSum_9 rfl (lv_at hl 0 rfl) ?_
    refine lv_bipush (v := 43) hx hb dX11_readSum_10 (by decide) ?_
    refine kcalli (wc := [(h, oX11 th aw ai ab ac hi re aP ta y159 en y160 de fa a5 y161 av an ak ne aW aC ag aT aN aF), (aP, .inl (cB, 400, .inl ft))]) (wr := [(aw, .inl (cI, 2179, .inl g162))]) hP hD hS hA [0, 2] [1] rfl rfl (by decide) (by decide) (by decide) (fun hPc hDc hFc => va_runV (As := [.int 43]) (rest := []) ⟨hx, hb, hml, hown, hts⟩ (r_sign l D cI cJ cB cC h th aw ai ab ac hi re aP ta y159 en y160 de fa a5 y161 av an ak ne aW aC ag aT aN aF ft 43 H.size hy159 H_en) (cwV 1 hts gX11_readSum_X11_sign rfl rfl rfl ⟨rfl, hdX11_sign⟩ ⟨Nat.le_of_ble_eq_true rfl, Nat.le_of_ble_eq_true rfl⟩) ⟨kBlind, va_recv hK hPc (ci := 10) (q0 := 0) rfl rfl, fun U hU hW => ⟨rfl, by rw [hU], hN.warm hW, hE.pass hS hFc hW hU, by rw [hU]; exact hPc, va_K.moved hW.alike hK, hDc⟩⟩ rfl rfl hl.1 rfl (lv_room (Nat.le_of_ble_eq_true rfl)) dX11_readSum_12 ⟨Nat.le_of_ble_eq_true rfl, Nat.le_of_ble_eq_true rfl⟩) (fun r165 u H locs hw hP hD hS => ?_)
    obtain ⟨x166, x167⟩ := u
    have hP : va_P D vwCl [(aw, .inl (cI, 2179, .inl g162)), (h, oX11 th aw ai ab ac hi re aP ta x166 en x167 de fa a5 y161 av an ak ne aW aC ag aT aN aF), (aP, .inl (cB, 400, .inl ft))] H := hP
    have hD : va_D A [(aw, .inl (cI, 2179, .inl g162)), (h, oX11 th aw ai ab ac hi re aP ta x166 en x167 de fa a5 y161 av an ak ne aW aC ag aT aN aF), (aP, .inl (cB, 400, .inl ft))] := hD
    obtain ⟨k168, k169, hw⟩ := hw
    rcases hw with ⟨rfl, kc170_0⟩ | ⟨rfl, kc170_0, kc170_1⟩
    · skip
      refine lv_if_eq (tgt := 37) hx hb dX11_readSum_15 (by decide) (fun _ => ?_) (fun c171 => absurd (by decide) c171)
      refine lv_iconst (v := 1) hx hb dX11_readSum_37 (by decide) ?_
      have hP9 := hP.sub (ws' := [(h, oX11 th aw ai ab ac hi re aP ta x166 en x167 de fa a5 y161 av an ak ne aW aC ag aT aN aF), (aw, .inl (cI, 2179, .inl g162)), (aP, .inl (cB, 400, .inl ft))]) [1, 0, 2] rfl
      have hD9 := hD.sub (ws' := [(h, oX11 th aw ai ab ac hi re aP ta x166 en x167 de fa a5 y161 av an ak ne aW aC ag aT aN aF), (aw, .inl (cI, 2179, .inl g162)), (aP, .inl (cB, 400, .inl ft))]) [1, 0, 2] (by decide) rfl
      exact W.zret (v := 1) hx hb hr (by decide) (fun t ht hW => ⟨⟨1, (x166, x167, y161, g162), rfl, ⟨k168, k169, (rg_w k164 (by decide)), hg162_0, hg162_1, hg162_2, (Or.inr ⟨rfl, (rOk_le hX9_0 (Int.le_refl _) (by have q0 := H_SP; obtain ⟨-, -, u1, v1, w1⟩ := kc12_0; obtain ⟨-, -, u3, v3, w3⟩ := hX9_0; have q4 := kc170_0; have q5 : (0 : Int32).toInt = 0 := (by decide); have q6 : (1 : Int32).toInt = 1 := (by decide); unfold Rg at *; omega))⟩)⟩, by rw [ht]; exact hP9, va_K.moved hW.alike hK, hD9⟩, hS.F ht⟩) hS.2.2 dX11_readSum_38
    · skip
      refine lv_if_eq (tgt := 37) hx hb dX11_readSum_15 (by decide) (fun c172 => absurd c172 (by decide)) (fun _ => ?_)
      refine lv_aload_n hx hb dX11_readSum_18 rfl (lv_at hl 0 rfl) ?_
      have k173 : (y161 : Int32).toInt + 5 ≤ (x166 : Int32).toInt := (by have q0 := H_SP; obtain ⟨-, -, u1, v1, w1⟩ := kc12_0; obtain ⟨-, -, u3, v3, w3⟩ := hX9_0; have q4 := kc170_1; have q5 := k164; have q6 := k168; have q7 : (0 : Int32).toInt = 0 := (by decide); have q8 : (1 : Int32).toInt = 1 := (by decide); unfold Rg at *; omega)
      refine kcalli (wc := [(h, oX11 th aw ai ab ac hi re aP ta x166 en x167 de fa a5 y161 av an ak ne aW aC ag aT aN aF), (aw, .inl (cI, 2179, .inl g162)), (aP, .inl (cB, 400, .inl ft))]) (wr := []) hP hD hS hA [1, 0, 2] [] rfl rfl (by decide) (by decide) (by decide) (fun hPc hDc hFc => va_runV (As := []) (rest := []) ⟨hx, hb, hml, hown, hts⟩ (r_readPart l D cI cJ cB cC h th aw ai ab ac hi re aP ta x166 en x167 de fa a5 y161 av an ak ne aW aC ag aT aN aF g162 ft H.size k168 (rg_w kc170_0 (by decide)) k164 hg162_2 hg162_0 hg162_1 k173) (cwV 0 hts gX11_readSum_X11_readPart rfl rfl rfl ⟨rfl, hdX11_readPart⟩ ⟨Nat.le_of_ble_eq_true rfl, Nat.le_of_ble_eq_true rfl⟩) ⟨kBlind, va_recv hK hPc (ci := 10) (q0 := 0) rfl rfl, fun U hU hW => ⟨rfl, by rw [hU], hN.warm hW, hE.pass hS hFc hW hU, by rw [hU]; exact hPc, va_K.moved hW.alike hK, hDc⟩⟩ rfl rfl hl.1 rfl (lv_room (Nat.le_of_ble_eq_true rfl)) dX11_readSum_19 ⟨Nat.le_of_ble_eq_true rfl, Nat.le_of_ble_eq_true rfl⟩) (fun r174 u H locs hw hP hD hS => ?_)
      obtain ⟨x175, x176, x177, g178⟩ := u
      have hP : va_P D vwCl [(h, oX11 th aw ai ab ac hi re aP ta x175 en x176 de fa a5 x177 av an ak ne aW aC ag aT aN aF), (aw, .inl (cI, 2179, .inl g178)), (aP, .inl (cB, 400, .inl ft))] H := hP
      have hD : va_D A [(h, oX11 th aw ai ab ac hi re aP ta x175 en x176 de fa a5 x177 av an ak ne aW aC ag aT aN aF), (aw, .inl (cI, 2179, .inl g178)), (aP, .inl (cB, 400, .inl ft))] := hD
      obtain ⟨k179, k180, k181, k182, k183, k184, hw⟩ := hw
      rcases hw with rfl | ⟨rfl, kc185_0⟩
      · skip
        refine lv_if_ne (tgt := 27) hx hb dX11_readSum_22 (by decide) (fun c186 => absurd (by decide) c186) (fun _ => ?_)
        refine lv_iconst (v := 0) hx hb dX11_readSum_25 (by decide) ?_
        have hP9 := hP.sub (ws' := [(h, oX11 th aw ai ab ac hi re aP ta x175 en x176 de fa a5 x177 av an ak ne aW aC ag aT aN aF), (aw, .inl (cI, 2179, .inl g178)), (aP, .inl (cB, 400, .inl ft))]) [0, 1, 2] rfl
        have hD9 := hD.sub (ws' := [(h, oX11 th aw ai ab ac hi re aP ta x175 en x176 de fa a5 x177 av an ak ne aW aC ag aT aN aF), (aw, .inl (cI, 2179, .inl g178)), (aP, .inl (cB, 400, .inl ft))]) [0, 1, 2] (by decide) rfl
        exact W.zret (v := 0) hx hb hr (by decide) (fun t ht hW => ⟨⟨0, (x175, x176, x177, g178), rfl, ⟨k179, k180, (rg_w k181 (by decide)), k182, k183, k184, (Or.inl rfl)⟩, by rw [ht]; exact hP9, va_K.moved hW.alike hK, hD9⟩, hS.F ht⟩) hS.2.2 dX11_readSum_26
      · skip
        refine lv_if_ne (tgt := 27) hx hb dX11_readSum_22 (by decide) (fun _ => ?_) (fun c187 => absurd c187 (by decide))
        refine lv_aload_n hx hb dX11_readSum_27 rfl (lv_at hl 0 rfl) ?_
        refine lv_bipush (v := 13) hx hb dX11_readSum_28 (by decide) ?_
        refine lv_iconst (v := 0) hx hb dX11_readSum_30 (by decide) ?_
        have k188 : (x177 : Int32).toInt + 5 ≤ (x175 : Int32).toInt := (by have q0 := H_SP; obtain ⟨-, -, u1, v1, w1⟩ := kc12_0; obtain ⟨-, -, u3, v3, w3⟩ := hX9_0; have q4 := kc170_1; have q5 := k173; obtain ⟨-, -, u6, v6, w6⟩ := kc185_0; have q7 := k181; have q8 := k179; have q9 : (0 : Int32).toInt = 0 := (by decide); have q10 : (1 : Int32).toInt = 1 := (by decide); unfold Rg at *; omega)
        have k189 : Rg x177 0 395 := (by have q1 := k188; have q2 := k181; have q3 := k179; unfold Rg at *; exact ⟨by omega, by omega⟩)
        refine kcallv (wc := [(h, oX11 th aw ai ab ac hi re aP ta x175 en x176 de fa a5 x177 av an ak ne aW aC ag aT aN aF), (aw, .inl (cI, 2179, .inl g178))]) (wr := [(aP, .inl (cB, 400, .inl ft))]) hP hD hS hA [0, 1] [2] rfl rfl (by decide) (by decide) (by decide) (fun hPc hDc hFc => va_runV (As := [.int 13, .int 0]) (rest := []) ⟨hx, hb, hml, hown, hts⟩ (r_emits l D cI cJ cB cC h th aw ai ab ac hi re aP ta x175 en x176 de fa a5 x177 av an ak ne aW aC ag aT aN aF g178 13 0 H.size (rg_w k189 (by decide)) k184 k182 k183) (cwV 2 hts gX11_readSum_X11_emits rfl rfl rfl ⟨rfl, hdX11_emits⟩ ⟨Nat.le_of_ble_eq_true rfl, Nat.le_of_ble_eq_true rfl⟩) ⟨kBlind, va_recv hK hPc (ci := 10) (q0 := 0) rfl rfl, fun U hU hW => ⟨rfl, by rw [hU], hN.warm hW, hE.pass hS hFc hW hU, by rw [hU]; exact hPc, va_K.moved hW.alike hK, hDc⟩⟩ rfl rfl hl.1 rfl (lv_room (Nat.le_of_ble_eq_true rfl)) dX11_readSum_31 ⟨Nat.le_of_ble_eq_true rfl, Nat.le_of_ble_eq_true rfl⟩) (fun u H locs hw hP hD hS => ?_)
        obtain ⟨x190, g191⟩ := u
        have hP : va_P D vwCl [(aP, .inl (cB, 400, .inl ft)), (h, oX11 th aw ai ab ac hi re aP ta x175 en x176 de fa a5 x190 av an ak ne aW aC ag aT aN aF), (aw, .inl (cI, 2179, .inl g191))] H := hP
        have hD : va_D A [(aP, .inl (cB, 400, .inl ft)), (h, oX11 th aw ai ab ac hi re aP ta x175 en x176 de fa a5 x190 av an ak ne aW aC ag aT aN aF), (aw, .inl (cI, 2179, .inl g191))] := hD
        obtain ⟨k192, k193, k194, k195, k196⟩ := hw
        refine lv_goto (tgt := 9) hx hb dX11_readSum_34 (by decide) ?_
        exact ih163 (x175, x176, x190, g191) _ _ _ (by show (400 - (x175).toInt).toNat < (400 - (y159).toInt).toNat; have q0 := H_SP; obtain ⟨-, -, u1, v1, w1⟩ := kc12_0; obtain ⟨-, -, u3, v3, w3⟩ := hX9_0; have q4 := kc170_1; have q5 := k173; obtain ⟨-, -, u6, v6, w6⟩ := kc185_0; have q7 := k188; obtain ⟨-, -, u8, -⟩ := k196; have q10 := k179; have q11 := hy159; have q12 : (0 : Int32).toInt = 0 := (by decide); have q13 : (1 : Int32).toInt = 1 := (by decide); unfold Rg at *; omega) ⟨(rOk_bin hX9_0 (by have q0 := H_SP; obtain ⟨-, -, u1, v1, w1⟩ := kc12_0; obtain ⟨-, -, u3, v3, w3⟩ := hX9_0; have q4 := kc170_1; have q5 := k173; obtain ⟨-, -, u6, v6, w6⟩ := kc185_0; have q7 := k188; obtain ⟨-, -, u8, -⟩ := k196; have q10 : (0 : Int32).toInt = 0 := (by decide); have q11 : (1 : Int32).toInt = 1 := (by decide); unfold Rg at *; omega) kc185_0 k196 (by decide) (by decide)), k179, k180, k192, k193, k194, k195, hP.sub (ws' := [(h, oX11 th aw ai ab ac hi re aP ta x175 en x176 de fa a5 x190 av an ak ne aW aC ag aT aN aF), (aw, .inl (cI, 2179, .inl g191)), (aP, .inl (cB, 400, .inl ft))]) [1, 2, 0] rfl, hD.sub (ws' := [(h, oX11 th aw ai ab ac hi re aP ta x175 en x176 de fa a5 x190 av an ak ne aW aC ag aT aN aF), (aw, .inl (cI, 2179, .inl g191)), (aP, .inl (cB, 400, .inl ft))]) [1, 2, 0] (by decide) rfl, hS, lv_sub (l' := [(0, .ref h)]) hl [0] rfl⟩

def kwX11_readTag : List Cond := .code yX11_readTag cX11_readTag 2 (some .boolean) :: kG
theorem hdX11_readTag : yX11_readTag.cls ≠ "java/lang/invoke/MethodHandle" ∧ yX11_readTag.cls ≠ "java/lang/invoke/VarHandle" ∧ (parseMethodDescriptor yX11_readTag.desc).map (fun d => d.parameters.length) = some 0 := by decide +kernel
theorem gX11_readTag_X11_emits : GoodIn kG (wsV RX11 184 RX11 yX11_emits kwX11_emits) := gK w22_5 (gK w22_6 (gK w22_7 (gK w0_5 (gK w22_8 gGG))))
theorem gX11_readTag_X11_isWord : GoodIn kG (wsV RX11 114 RX11 yX11_isWord kwX11_isWord) := gK w19_7 (gK w19_8 (gK w19_9 (gK w0_5 (gK w19_10 gGG))))
theorem gX11_readTag_X11_letters : GoodIn kG (wsV RX11 111 RX11 yX11_letters kwX11_letters) := gK w18_23 (gK w19_0 (gK w19_1 (gK w0_5 (gK w19_2 gGG))))
theorem dX11_readTag_0 : decode cX11_readTag 0 = .ok (.aload_n 0, 1) := by decide +kernel
theorem dX11_readTag_1 : decode cX11_readTag 1 = .ok (.invokevirtual 111, 3) := by decide +kernel
theorem dX11_readTag_4 : decode cX11_readTag 4 = .ok (.aload_n 0, 1) := by decide +kernel
theorem dX11_readTag_5 : decode cX11_readTag 5 = .ok (.ldc 202, 2) := by decide +kernel
theorem dX11_readTag_7 : decode cX11_readTag 7 = .ok (.invokevirtual 114, 3) := by decide +kernel
theorem dX11_readTag_10 : decode cX11_readTag 10 = .ok (.ifCond .eq 8, 3) := by decide +kernel
theorem dX11_readTag_13 : decode cX11_readTag 13 = .ok (.bipush 9, 2) := by decide +kernel
theorem dX11_readTag_15 : decode cX11_readTag 15 = .ok (.goto 32, 3) := by decide +kernel
theorem dX11_readTag_18 : decode cX11_readTag 18 = .ok (.aload_n 0, 1) := by decide +kernel
theorem dX11_readTag_19 : decode cX11_readTag 19 = .ok (.ldc 204, 2) := by decide +kernel
theorem dX11_readTag_21 : decode cX11_readTag 21 = .ok (.invokevirtual 114, 3) := by decide +kernel
theorem dX11_readTag_24 : decode cX11_readTag 24 = .ok (.ifCond .eq 8, 3) := by decide +kernel
theorem dX11_readTag_27 : decode cX11_readTag 27 = .ok (.bipush 10, 2) := by decide +kernel
theorem dX11_readTag_29 : decode cX11_readTag 29 = .ok (.goto 18, 3) := by decide +kernel
theorem dX11_readTag_32 : decode cX11_readTag 32 = .ok (.aload_n 0, 1) := by decide +kernel
theorem dX11_readTag_33 : decode cX11_readTag 33 = .ok (.ldc 206, 2) := by decide +kernel
theorem dX11_readTag_35 : decode cX11_readTag 35 = .ok (.invokevirtual 114, 3) := by decide +kernel
theorem dX11_readTag_38 : decode cX11_readTag 38 = .ok (.ifCond .eq 8, 3) := by decide +kernel
theorem dX11_readTag_41 : decode cX11_readTag 41 = .ok (.bipush 11, 2) := by decide +kernel
theorem dX11_readTag_43 : decode cX11_readTag 43 = .ok (.goto 4, 3) := by decide +kernel
theorem dX11_readTag_46 : decode cX11_readTag 46 = .ok (.iconst (-1), 1) := by decide +kernel
theorem dX11_readTag_47 : decode cX11_readTag 47 = .ok (.istore_n 1, 1) := by decide +kernel
theorem dX11_readTag_48 : decode cX11_readTag 48 = .ok (.iload_n 1, 1) := by decide +kernel
theorem dX11_readTag_49 : decode cX11_readTag 49 = .ok (.ifCond .lt 12, 3) := by decide +kernel
theorem dX11_readTag_52 : decode cX11_readTag 52 = .ok (.aload_n 0, 1) := by decide +kernel
theorem dX11_readTag_53 : decode cX11_readTag 53 = .ok (.iload_n 1, 1) := by decide +kernel
theorem dX11_readTag_54 : decode cX11_readTag 54 = .ok (.iconst 0, 1) := by decide +kernel
theorem dX11_readTag_55 : decode cX11_readTag 55 = .ok (.invokevirtual 184, 3) := by decide +kernel
theorem dX11_readTag_58 : decode cX11_readTag 58 = .ok (.goto 11, 3) := by decide +kernel
theorem dX11_readTag_61 : decode cX11_readTag 61 = .ok (.aload_n 0, 1) := by decide +kernel
theorem dX11_readTag_62 : decode cX11_readTag 62 = .ok (.aload_n 0, 1) := by decide +kernel
theorem dX11_readTag_63 : decode cX11_readTag 63 = .ok (.getfield 96, 3) := by decide +kernel
theorem dX11_readTag_66 : decode cX11_readTag 66 = .ok (.putfield 86, 3) := by decide +kernel
theorem dX11_readTag_69 : decode cX11_readTag 69 = .ok (.iload_n 1, 1) := by decide +kernel
theorem dX11_readTag_70 : decode cX11_readTag 70 = .ok (.ifCond .lt 7, 3) := by decide +kernel
theorem dX11_readTag_73 : decode cX11_readTag 73 = .ok (.iconst 1, 1) := by decide +kernel
theorem dX11_readTag_74 : decode cX11_readTag 74 = .ok (.goto 4, 3) := by decide +kernel
theorem dX11_readTag_77 : decode cX11_readTag 77 = .ok (.iconst 0, 1) := by decide +kernel
theorem dX11_readTag_78 : decode cX11_readTag 78 = .ok (.ireturn, 1) := by decide +kernel
set_option maxHeartbeats 4000000 in
set_option maxRecDepth 100000 in
/-- reference: readTag -/
theorem r_readTag (l : Launch) (D : va_G) (cI cJ cB cC : ClassId) (h : Nat) (th : Int32) (aw : Nat) (ai : Nat) (ab : Nat) (ac : Nat) (hi : Int32) (re : Int32) (aP : Nat) (ta : Int32) (po : Int32) (en : Int32) (be : Int32) (de : Int32) (fa : Int32) (a5 : Nat) (sp : Int32) (av : Nat) (an : Nat) (ak : Nat) (ne : Int32) (aW : Nat) (aC : Nat) (ag : Nat) (aT : Nat) (aN : Nat) (aF : Nat) (fw : Nat → Int32) (ft : Nat → Int32) (sz : Nat) (H_po : Rg po 0 400) (H_en : Rg en 0 400) (H_sp : Rg sp 0 395) (H_fw_W : wW fw) (H_fw_B : wB fw) (H_fw_L : wL fw) (H_SP : (sp : Int32).toInt + 5 ≤ (po : Int32).toInt) : Met l yX11_readTag kwX11_readTag ({ frames := 5, cells := 0, slots := 0, locals := 108 } : Room) (kPre D (kT cI cJ cB cC) sz [(h, oX11 th aw ai ab ac hi re aP ta po en be de fa a5 sp av an ak ne aW aC ag aT aN aF), (aw, .inl (cI, 2179, .inl fw)), (aP, .inl (cB, 400, .inl ft))] [.ref h]) (va_Qi (fun (r : Int32) (uu : Int32 × Int32 × Int32 × (Nat → Int32)) => match uu with | (n0_, n1_, n2_, f3_) => Rg n0_ 0 400 ∧ Rg n1_ 0 400 ∧ Rg n2_ 0 400 ∧ wB f3_ ∧ wL f3_ ∧ wW f3_ ∧ ((r = 0 ∧ rOk fw f3_ sp n2_ po n0_ 0) ∨ (r = 1 ∧ rOk fw f3_ sp n2_ po n0_ 1))) (fun (uu : Int32 × Int32 × Int32 × (Nat → Int32)) (t : State) => match uu with | (n0_, n1_, n2_, f3_) => kB D (kT cI cJ cB cC) (va_A [(h, oX11 th aw ai ab ac hi re aP ta po en be de fa a5 sp av an ak ne aW aC ag aT aN aF), (aw, .inl (cI, 2179, .inl fw)), (aP, .inl (cB, 400, .inl ft))] sz) [(h, oX11 th aw ai ab ac hi re aP ta n0_ en n1_ de fa a5 n2_ av an ak ne aW aC ag aT aN aF), (aw, .inl (cI, 2179, .inl f3_)), (aP, .inl (cB, 400, .inl ft))] t) (va_A [(h, oX11 th aw ai ab ac hi re aP ta po en be de fa a5 sp av an ak ne aW aC ag aT aN aF), (aw, .inl (cI, 2179, .inl fw)), (aP, .inl (cB, 400, .inl ft))] sz)) 0 0 (va_A [(h, oX11 th aw ai ab ac hi re aP ta po en be de fa a5 sp av an ak ne aW aC ag aT aN aF), (aw, .inl (cI, 2179, .inl fw)), (aP, .inl (cB, 400, .inl ft))] sz) := by
  refine Met.ofW (cc := cX11_readTag) (maxL := 2) (ret := (some .boolean)) (by decide) rfl ?_
  intro p e s m args below meth c s₁ B hml hv
  obtain ⟨rfl, hsz, hN, hE, hP, hK, hD0⟩ := hv
  have hx := B.exec
  have hb := B.bytes
  have hr := B.returns
  have hts := fun (w : Cond) (h : w ∈ kG) => atoms_spec (ws := kwX11_readTag) B.pre w (List.mem_cons_of_mem _ h)
  have hown : s.vm.findClass RX11 = some m.cls := findClass_of_methodNamed B.named
  subst hsz
  have hD := hD0.self (sz := s.heap.size)
  generalize hAe : va_A [(h, oX11 th aw ai ab ac hi re aP ta po en be de fa a5 sp av an ak ne aW aC ag aT aN aF), (aw, .inl (cI, 2179, .inl fw)), (aP, .inl (cB, 400, .inl ft))] s.heap.size = A at hD hE ⊢
  have hA : ∀ q : Nat, s.heap.size ≤ q → A q := fun q h => by rw [← hAe]; exact Or.inr h
  have hl := lv_entry ([.ref h]) (n := 2) (Nat.le_of_ble_eq_true rfl)
  rw [lg_entry_eq]
  generalize (lg_sl ([.ref h]) ++ List.replicate (2 - (lg_sl ([.ref h])).length) Slot.unset).toArray = ls at hl ⊢
  have hl : lv_has ls 2 [(0, .ref h)] := hl
  obtain ⟨H, hH0⟩ : ∃ H, H = s.heap := ⟨_, rfl⟩
  have hS : va_S A s.heap H [] := by rw [hH0]; exact va_S.rf
  have hP : va_P D vwCl [(h, oX11 th aw ai ab ac hi re aP ta po en be de fa a5 sp av an ak ne aW aC ag aT aN aF), (aw, .inl (cI, 2179, .inl fw)), (aP, .inl (cB, 400, .inl ft))] H := by rw [hH0]; exact hP
  refine kHeap hH0 ?_
  clear hH0
  refine lv_aload_n hx hb dX11_readTag_0 rfl (lv_at hl 0 rfl) ?_
  refine kcallv (wc := [(h, oX11 th aw ai ab ac hi re aP ta po en be de fa a5 sp av an ak ne aW aC ag aT aN aF), (aP, .inl (cB, 400, .inl ft))]) (wr := [(aw, .inl (cI, 2179, .inl fw))]) hP hD hS hA [0, 2] [1] rfl rfl (by decide) (by decide) (by decide) (fun hPc hDc hFc => va_runV (As := []) (rest := []) ⟨hx, hb, hml, hown, hts⟩ (r_letters l D cI cJ cB cC h th aw ai ab ac hi re aP ta po en be de fa a5 sp av an ak ne aW aC ag aT aN aF ft H.size H_po H_en) (cwV 0 hts gX11_readTag_X11_letters rfl rfl rfl ⟨rfl, hdX11_letters⟩ ⟨Nat.le_of_ble_eq_true rfl, Nat.le_of_ble_eq_true rfl⟩) ⟨kBlind, va_recv hK hPc (ci := 10) (q0 := 0) rfl rfl, fun U hU hW => ⟨rfl, by rw [hU], hN.warm hW, hE.pass hS hFc hW hU, by rw [hU]; exact hPc, va_K.moved hW.alike hK, hDc⟩⟩ rfl rfl hl.1 rfl (lv_room (Nat.le_of_ble_eq_true rfl)) dX11_readTag_1 ⟨Nat.le_of_ble_eq_true rfl, Nat.le_of_ble_eq_true rfl⟩) (fun u H locs hw hP hD hS => ?_)
  obtain ⟨x1, x2⟩ := u
  have hP : va_P D vwCl [(aw, .inl (cI, 2179, .inl fw)), (h, oX11 th aw ai ab ac hi re aP ta x1 en x2 de fa a5 sp av an ak ne aW aC ag aT aN aF), (aP, .inl (cB, 400, .inl ft))] H := hP
  have hD : va_D A [(aw, .inl (cI, 2179, .inl fw)), (h, oX11 th aw ai ab ac hi re aP ta x1 en x2 de fa a5 sp av an ak ne aW aC ag aT aN aF), (aP, .inl (cB, 400, .inl ft))] := hD
  obtain ⟨k3, k4, k5, k6⟩ := hw
  refine lv_aload_n hx hb dX11_readTag_4 rfl (lv_at hl 0 rfl) ?_
  obtain ⟨q7, q8, hR9, hT10⟩ := kTx_20 hE.2.2
  refine va_ldcS hx hb hown hR9 dX11_readTag_5 ?_
  refine kpurei (wc := [(h, oX11 th aw ai ab ac hi re aP ta x1 en x2 de fa a5 sp av an ak ne aW aC ag aT aN aF), (aP, .inl (cB, 400, .inl ft))]) hP hD hS hA [1, 2] rfl (by decide) (fun hPc hDc hFc => va_runV (As := [.ref q7]) (rest := []) ⟨hx, hb, hml, hown, hts⟩ (r_isWord l D cI cJ cB cC h th aw ai ab ac hi re aP ta x1 en x2 de fa a5 sp av an ak ne aW aC ag aT aN aF ft q7 kSb20 q8 H.size k3 H_en k4 kSb20_le) (cwV 1 hts gX11_readTag_X11_isWord rfl rfl rfl ⟨rfl, hdX11_isWord⟩ ⟨Nat.le_of_ble_eq_true rfl, Nat.le_of_ble_eq_true rfl⟩) ⟨kBlindT, va_recv hK hPc (ci := 10) (q0 := 0) rfl rfl, fun U hU hW => ⟨rfl, by rw [hU], hN.warm hW, hE.pass hS hFc hW hU, hT10.pass hS hFc hW hU, by rw [hU]; exact hPc, va_K.moved hW.alike hK, hDc⟩⟩ rfl rfl hl.1 rfl (lv_room (Nat.le_of_ble_eq_true rfl)) dX11_readTag_7 ⟨Nat.le_of_ble_eq_true rfl, Nat.le_of_ble_eq_true rfl⟩) (fun r11 u H locs hw hP hS => ?_)
  obtain ⟨k12, k13⟩ := hw
  refine lv_if_eq (tgt := 18) hx hb dX11_readTag_10 (by decide) (fun c37 => ?_) (fun c37 => ?_)
  · skip
    have k38 : Rg r11 0 0 := rg_q1 (eqI c37) k12 (rg_lit (n := 0) (by decide)) (by decide)
    refine lv_aload_n hx hb dX11_readTag_18 rfl (lv_at hl 0 rfl) ?_
    obtain ⟨q39, q40, hR41, hT42⟩ := kTx_21 hE.2.2
    refine va_ldcS hx hb hown hR41 dX11_readTag_19 ?_
    refine kpurei (wc := [(h, oX11 th aw ai ab ac hi re aP ta x1 en x2 de fa a5 sp av an ak ne aW aC ag aT aN aF), (aP, .inl (cB, 400, .inl ft))]) hP hD hS hA [1, 2] rfl (by decide) (fun hPc hDc hFc => va_runV (As := [.ref q39]) (rest := []) ⟨hx, hb, hml, hown, hts⟩ (r_isWord l D cI cJ cB cC h th aw ai ab ac hi re aP ta x1 en x2 de fa a5 sp av an ak ne aW aC ag aT aN aF ft q39 kSb21 q40 H.size k3 H_en k4 kSb21_le) (cwV 1 hts gX11_readTag_X11_isWord rfl rfl rfl ⟨rfl, hdX11_isWord⟩ ⟨Nat.le_of_ble_eq_true rfl, Nat.le_of_ble_eq_true rfl⟩) ⟨kBlindT, va_recv hK hPc (ci := 10) (q0 := 0) rfl rfl, fun U hU hW => ⟨rfl, by rw [hU], hN.warm hW, hE.pass hS hFc hW hU, hT42.pass hS hFc hW hU, by rw [hU]; exact hPc, va_K.moved hW.alike hK, hDc⟩⟩ rfl rfl hl.1 rfl (lv_room (Nat.le_of_ble_eq_true rfl)) dX11_readTag_21 ⟨Nat.le_of_ble_eq_true rfl, Nat.le_of_ble_eq_true rfl⟩) (fun r43 u H locs hw hP hS => ?_)
    obtain ⟨k44, k45⟩ := hw
    refine lv_if_eq (tgt := 32) hx hb dX11_readTag_24 (by decide) (fun c46 => ?_) (fun c46 => ?_)
    · skip
      have k47 : Rg r43 0 0 := rg_q1 (eqI c46) k44 (rg_lit (n := 0) (by decide)) (by decide)
      refine lv_aload_n hx hb dX11_readTag_32 rfl (lv_at hl 0 rfl) ?_
      obtain ⟨q48, q49, hR50, hT51⟩ := kTx_22 hE.2.2
      refine va_ldcS hx hb hown hR50 dX11_readTag_33 ?_
      refine kpurei (wc := [(h, oX11 th aw ai ab ac hi re aP ta x1 en x2 de fa a5 sp av an ak ne aW aC ag aT aN aF), (aP, .inl (cB, 400, .inl ft))]) hP hD hS hA [1, 2] rfl (by decide) (fun hPc hDc hFc => va_runV (As := [.ref q48]) (rest := []) ⟨hx, hb, hml, hown, hts⟩ (r_isWord l D cI cJ cB cC h th aw ai ab ac hi re aP ta x1 en x2 de fa a5 sp av an ak ne aW aC ag aT aN aF ft q48 kSb22 q49 H.size k3 H_en k4 kSb22_le) (cwV 1 hts gX11_readTag_X11_isWord rfl rfl rfl ⟨rfl, hdX11_isWord⟩ ⟨Nat.le_of_ble_eq_true rfl, Nat.le_of_ble_eq_true rfl⟩) ⟨kBlindT, va_recv hK hPc (ci := 10) (q0 := 0) rfl rfl, fun U hU hW => ⟨rfl, by rw [hU], hN.warm hW, hE.pass hS hFc hW hU, hT51.pass hS hFc hW hU, by rw [hU]; exact hPc, va_K.moved hW.alike hK, hDc⟩⟩ rfl rfl hl.1 rfl (lv_room (Nat.le_of_ble_eq_true rfl)) dX11_readTag_35 ⟨Nat.le_of_ble_eq_true rfl, Nat.le_of_ble_eq_true rfl⟩) (fun r52 u H locs hw hP hS => ?_)
      obtain ⟨k53, k54⟩ := hw
      refine lv_if_eq (tgt := 46) hx hb dX11_readTag_38 (by decide) (fun c55 => ?_) (fun c55 => ?_)
      · skip
        have k56 : Rg r52 0 0 := rg_q1 (eqI c55) k53 (rg_lit (n := 0) (by decide)) (by decide)
        refine lv_iconst (v := (-1)) hx hb dX11_readTag_46 (by decide) ?_
        refine lv_istore_n (lv' := [(1, .int (-1)), (0, .ref h)]) hx hb dX11_readTag_47 rfl hl (by decide) rfl (fun ls hl => ?_)
        refine lv_iload_n hx hb dX11_readTag_48 rfl (lv_at hl 0 rfl) ?_
        refine lv_if_lt (tgt := 61) hx hb dX11_readTag_49 (by decide) (fun _ => ?_) (fun c58 => absurd (by decide) c58)
        refine lv_aload_n hx hb dX11_readTag_61 rfl (lv_at hl 1 rfl) ?_
        refine lv_aload_n hx hb dX11_readTag_62 rfl (lv_at hl 1 rfl) ?_
        refine va_get (D := D) (ci := 10) (v := .int x2) (C := RX11) (T := TX11) (N := 26) hx hb hts iG_X11 hown hK hP 1 rfl rfl 11 (by decide) (hts _ w17_22) (fun _ h9 => h9) rfl dX11_readTag_63 ?_
        refine va_put (D := D) (ci := 10) (v := .int x2) (ty := .int) (C := RX11) (T := TX11) (N := 26) hx hb hts iG_X11 tyX11 tyX11_ok nmX11 hown hK hP hD hS 1 rfl rfl 9 (by decide) (hts _ w18_5) (fun _ h9 => h9) rfl (by decide +kernel) rfl rfl (Nat.le_of_ble_eq_true rfl) dX11_readTag_66 (fun H locs hP hD hS => ?_)
        have hP : va_P D vwCl [(aw, .inl (cI, 2179, .inl fw)), (h, oX11 th aw ai ab ac hi re aP ta x2 en x2 de fa a5 sp av an ak ne aW aC ag aT aN aF), (aP, .inl (cB, 400, .inl ft))] H := hP
        have hD : va_D A [(aw, .inl (cI, 2179, .inl fw)), (h, oX11 th aw ai ab ac hi re aP ta x2 en x2 de fa a5 sp av an ak ne aW aC ag aT aN aF), (aP, .inl (cB, 400, .inl ft))] := hD
        refine lv_iload_n hx hb dX11_readTag_69 rfl (lv_at hl 0 rfl) ?_
        refine lv_if_lt (tgt := 77) hx hb dX11_readTag_70 (by decide) (fun _ => ?_) (fun c60 => absurd (by decide) c60)
        refine lv_iconst (v := 0) hx hb dX11_readTag_77 (by decide) ?_
        have hP9 := hP.sub (ws' := [(h, oX11 th aw ai ab ac hi re aP ta x2 en x2 de fa a5 sp av an ak ne aW aC ag aT aN aF), (aw, .inl (cI, 2179, .inl fw)), (aP, .inl (cB, 400, .inl ft))]) [1, 0, 2] rfl
        have hD9 := hD.sub (ws' := [(h, oX11 th aw ai ab ac hi re aP ta x2 en x2 de fa a5 sp av an ak ne aW aC ag aT aN aF), (aw, .inl (cI, 2179, .inl fw)), (aP, .inl (cB, 400, .inl ft))]) [1, 0, 2] (by decide) rfl
        exact W.zret (v := 0) hx hb hr (by decide) (fun t ht hW => ⟨⟨0, (x2, x2, sp, fw), rfl, ⟨k4, k4, (rg_w H_sp (by decide)), H_fw_B, H_fw_L, H_fw_W, (Or.inl ⟨rfl, (rOk_0 (by have q1 := H_sp; unfold Rg at q1; omega) (by have q0 := H_SP; have q1 := k5; have q3 := k6; have q5 := k13; have q7 := (eqI c37); have q9 := k45; have q10 := (eqI c46); have q12 := k54; have q13 := (eqI c55); have q14 : (0 : Int32).toInt = 0 := (by decide); have q15 : (1 : Int32).toInt = 1 := (by decide); have q16 : ((nI kSb20.length) : Int32).toInt = 4 := (by decide); have q17 : ((nI kSb21.length) : Int32).toInt = 9 := (by decide); have q18 : ((nI kSb22.length) : Int32).toInt = 6 := (by decide); unfold Rg at *; omega))⟩)⟩, by rw [ht]; exact hP9, va_K.moved hW.alike hK, hD9⟩, hS.F ht⟩) hS.2.2 dX11_readTag_78
      · skip
        have k61 : Rg r52 1 1 := rg_n1 (neI c55) k53 (rg_lit (n := 0) (by decide)) (by decide)
        refine lv_bipush (v := 11) hx hb dX11_readTag_41 (by decide) ?_
        refine lv_goto (tgt := 47) hx hb dX11_readTag_43 (by decide) ?_
        refine lv_istore_n (lv' := [(1, .int 11), (0, .ref h)]) hx hb dX11_readTag_47 rfl hl (by decide) rfl (fun ls hl => ?_)
        refine lv_iload_n hx hb dX11_readTag_48 rfl (lv_at hl 0 rfl) ?_
        refine lv_if_lt (tgt := 61) hx hb dX11_readTag_49 (by decide) (fun c70 => absurd c70 (by decide)) (fun _ => ?_)
        refine lv_aload_n hx hb dX11_readTag_52 rfl (lv_at hl 1 rfl) ?_
        refine lv_iload_n hx hb dX11_readTag_53 rfl (lv_at hl 0 rfl) ?_
        refine lv_iconst (v := 0) hx hb dX11_readTag_54 (by decide) ?_
        refine kcallv (wc := [(h, oX11 th aw ai ab ac hi re aP ta x1 en x2 de fa a5 sp av an ak ne aW aC ag aT aN aF), (aw, .inl (cI, 2179, .inl fw))]) (wr := [(aP, .inl (cB, 400, .inl ft))]) hP hD hS hA [1, 0] [2] rfl rfl (by decide) (by decide) (by decide) (fun hPc hDc hFc => va_runV (As := [.int 11, .int 0]) (rest := []) ⟨hx, hb, hml, hown, hts⟩ (r_emits l D cI cJ cB cC h th aw ai ab ac hi re aP ta x1 en x2 de fa a5 sp av an ak ne aW aC ag aT aN aF fw 11 0 H.size (rg_w H_sp (by decide)) H_fw_W H_fw_B H_fw_L) (cwV 2 hts gX11_readTag_X11_emits rfl rfl rfl ⟨rfl, hdX11_emits⟩ ⟨Nat.le_of_ble_eq_true rfl, Nat.le_of_ble_eq_true rfl⟩) ⟨kBlind, va_recv hK hPc (ci := 10) (q0 := 0) rfl rfl, fun U hU hW => ⟨rfl, by rw [hU], hN.warm hW, hE.pass hS hFc hW hU, by rw [hU]; exact hPc, va_K.moved hW.alike hK, hDc⟩⟩ rfl rfl hl.1 rfl (lv_room (Nat.le_of_ble_eq_true rfl)) dX11_readTag_55 ⟨Nat.le_of_ble_eq_true rfl, Nat.le_of_ble_eq_true rfl⟩) (fun u H locs hw hP hD hS => ?_)
        obtain ⟨x71, g72⟩ := u
        have hP : va_P D vwCl [(aP, .inl (cB, 400, .inl ft)), (h, oX11 th aw ai ab ac hi re aP ta x1 en x2 de fa a5 x71 av an ak ne aW aC ag aT aN aF), (aw, .inl (cI, 2179, .inl g72))] H := hP
        have hD : va_D A [(aP, .inl (cB, 400, .inl ft)), (h, oX11 th aw ai ab ac hi re aP ta x1 en x2 de fa a5 x71 av an ak ne aW aC ag aT aN aF), (aw, .inl (cI, 2179, .inl g72))] := hD
        obtain ⟨k73, k74, k75, k76, k77⟩ := hw
        refine lv_goto (tgt := 69) hx hb dX11_readTag_58 (by decide) ?_
        refine lv_iload_n hx hb dX11_readTag_69 rfl (lv_at hl 0 rfl) ?_
        refine lv_if_lt (tgt := 77) hx hb dX11_readTag_70 (by decide) (fun c79 => absurd c79 (by decide)) (fun _ => ?_)
        refine lv_iconst (v := 1) hx hb dX11_readTag_73 (by decide) ?_
        refine lv_goto (tgt := 78) hx hb dX11_readTag_74 (by decide) ?_
        have hP9 := hP.sub (ws' := [(h, oX11 th aw ai ab ac hi re aP ta x1 en x2 de fa a5 x71 av an ak ne aW aC ag aT aN aF), (aw, .inl (cI, 2179, .inl g72)), (aP, .inl (cB, 400, .inl ft))]) [1, 2, 0] rfl
        have hD9 := hD.sub (ws' := [(h, oX11 th aw ai ab ac hi re aP ta x1 en x2 de fa a5 x71 av an ak ne aW aC ag aT aN aF), (aw, .inl (cI, 2179, .inl g72)), (aP, .inl (cB, 400, .inl ft))]) [1, 2, 0] (by decide) rfl
        exact W.zret (v := 1) hx hb hr (by decide) (fun t ht hW => ⟨⟨1, (x1, x2, x71, g72), rfl, ⟨k3, k4, (rg_w k73 (by decide)), k74, k75, k76, (Or.inr ⟨rfl, (rOk_part k77 (by decide) (by have q0 := H_SP; have q1 := k5; have q3 := k6; have q5 := k13; have q7 := (eqI c37); have q9 := k45; have q10 := (eqI c46); have q12 := k54; have q14 := neI c55; have q15 := neI (Ne.symm c55); obtain ⟨-, -, u16, -⟩ := k77; have q18 : (0 : Int32).toInt = 0 := (by decide); have q19 : (1 : Int32).toInt = 1 := (by decide); have q20 : ((nI kSb20.length) : Int32).toInt = 4 := (by decide); have q21 : ((nI kSb21.length) : Int32).toInt = 9 := (by decide); have q22 : ((nI kSb22.length) : Int32).toInt = 6 := (by decide); unfold Rg at *; omega))⟩)⟩, by rw [ht]; exact hP9, va_K.moved hW.alike hK, hD9⟩, hS.F ht⟩) hS.2.2 dX11_readTag_78
    · skip
      have k80 : Rg r43 1 1 := rg_n1 (neI c46) k44 (rg_lit (n := 0) (by decide)) (by decide)
      refine lv_bipush (v := 10) hx hb dX11_readTag_27 (by decide) ?_
      refine lv_goto (tgt := 47) hx hb dX11_readTag_29 (by decide) ?_
      refine lv_istore_n (lv' := [(1, .int 10), (0, .ref h)]) hx hb dX11_readTag_47 rfl hl (by decide) rfl (fun ls hl => ?_)
      refine lv_iload_n hx hb dX11_readTag_48 rfl (lv_at hl 0 rfl) ?_
      refine lv_if_lt (tgt := 61) hx hb dX11_readTag_49 (by decide) (fun c89 => absurd c89 (by decide)) (fun _ => ?_)
      refine lv_aload_n hx hb dX11_readTag_52 rfl (lv_at hl 1 rfl) ?_
      refine lv_iload_n hx hb dX11_readTag_53 rfl (lv_at hl 0 rfl) ?_
      refine lv_iconst (v := 0) hx hb dX11_readTag_54 (by decide) ?_
      refine kcallv (wc := [(h, oX11 th aw ai ab ac hi re aP ta x1 en x2 de fa a5 sp av an ak ne aW aC ag aT aN aF), (aw, .inl (cI, 2179, .inl fw))]) (wr := [(aP, .inl (cB, 400, .inl ft))]) hP hD hS hA [1, 0] [2] rfl rfl (by decide) (by decide) (by decide) (fun hPc hDc hFc => va_runV (As := [.int 10, .int 0]) (rest := []) ⟨hx, hb, hml, hown, hts⟩ (r_emits l D cI cJ cB cC h th aw ai ab ac hi re aP ta x1 en x2 de fa a5 sp av an ak ne aW aC ag aT aN aF fw 10 0 H.size (rg_w H_sp (by decide)) H_fw_W H_fw_B H_fw_L) (cwV 2 hts gX11_readTag_X11_emits rfl rfl rfl ⟨rfl, hdX11_emits⟩ ⟨Nat.le_of_ble_eq_true rfl, Nat.le_of_ble_eq_true rfl⟩) ⟨kBlind, va_recv hK hPc (ci := 10) (q0 := 0) rfl rfl, fun U hU hW => ⟨rfl, by rw [hU], hN.warm hW, hE.pass hS hFc hW hU, by rw [hU]; exact hPc, va_K.moved hW.alike hK, hDc⟩⟩ rfl rfl hl.1 rfl (lv_room (Nat.le_of_ble_eq_true rfl)) dX11_readTag_55 ⟨Nat.le_of_ble_eq_true rfl, Nat.le_of_ble_eq_true rfl⟩) (fun u H locs hw hP hD hS => ?_)
      obtain ⟨x90, g91⟩ := u
      have hP : va_P D vwCl [(aP, .inl (cB, 400, .inl ft)), (h, oX11 th aw ai ab ac hi re aP ta x1 en x2 de fa a5 x90 av an ak ne aW aC ag aT aN aF), (aw, .inl (cI, 2179, .inl g91))] H := hP
      have hD : va_D A [(aP, .inl (cB, 400, .inl ft)), (h, oX11 th aw ai ab ac hi re aP ta x1 en x2 de fa a5 x90 av an ak ne aW aC ag aT aN aF), (aw, .inl (cI, 2179, .inl g91))] := hD
      obtain ⟨k92, k93, k94, k95, k96⟩ := hw
      refine lv_goto (tgt := 69) hx hb dX11_readTag_58 (by decide) ?_
      refine lv_iload_n hx hb dX11_readTag_69 rfl (lv_at hl 0 rfl) ?_
      refine lv_if_lt (tgt := 77) hx hb dX11_readTag_70 (by decide) (fun c98 => absurd c98 (by decide)) (fun _ => ?_)
      refine lv_iconst (v := 1) hx hb dX11_readTag_73 (by decide) ?_
      refine lv_goto (tgt := 78) hx hb dX11_readTag_74 (by decide) ?_
      have hP9 := hP.sub (ws' := [(h, oX11 th aw ai ab ac hi re aP ta x1 en x2 de fa a5 x90 av an ak ne aW aC ag aT aN aF), (aw, .inl (cI, 2179, .inl g91)), (aP, .inl (cB, 400, .inl ft))]) [1, 2, 0] rfl
      have hD9 := hD.sub (ws' := [(h, oX11 th aw ai ab ac hi re aP ta x1 en x2 de fa a5 x90 av an ak ne aW aC ag aT aN aF), (aw, .inl (cI, 2179, .inl g91)), (aP, .inl (cB, 400, .inl ft))]) [1, 2, 0] (by decide) rfl
      exact W.zret (v := 1) hx hb hr (by decide) (fun t ht hW => ⟨⟨1, (x1, x2, x90, g91), rfl, ⟨k3, k4, (rg_w k92 (by decide)), k93, k94, k95, (Or.inr ⟨rfl, (rOk_part k96 (by decide) (by have q0 := H_SP; have q1 := k5; have q3 := k6; have q5 := k13; have q7 := (eqI c37); have q9 := k45; have q11 := neI c46; have q12 := neI (Ne.symm c46); obtain ⟨-, -, u13, -⟩ := k96; have q15 : (0 : Int32).toInt = 0 := (by decide); have q16 : (1 : Int32).toInt = 1 := (by decide); have q17 : ((nI kSb20.length) : Int32).toInt = 4 := (by decide); have q18 : ((nI kSb21.length) : Int32).toInt = 9 := (by decide); unfold Rg at *; omega))⟩)⟩, by rw [ht]; exact hP9, va_K.moved hW.alike hK, hD9⟩, hS.F ht⟩) hS.2.2 dX11_readTag_78
  · skip
    have k99 : Rg r11 1 1 := rg_n1 (neI c37) k12 (rg_lit (n := 0) (by decide)) (by decide)
    refine lv_bipush (v := 9) hx hb dX11_readTag_13 (by decide) ?_
    refine lv_goto (tgt := 47) hx hb dX11_readTag_15 (by decide) ?_
    refine lv_istore_n (lv' := [(1, .int 9), (0, .ref h)]) hx hb dX11_readTag_47 rfl hl (by decide) rfl (fun ls hl => ?_)
    refine lv_iload_n hx hb dX11_readTag_48 rfl (lv_at hl 0 rfl) ?_
    refine lv_if_lt (tgt := 61) hx hb dX11_readTag_49 (by decide) (fun c108 => absurd c108 (by decide)) (fun _ => ?_)
    refine lv_aload_n hx hb dX11_readTag_52 rfl (lv_at hl 1 rfl) ?_
    refine lv_iload_n hx hb dX11_readTag_53 rfl (lv_at hl 0 rfl) ?_
    refine lv_iconst (v := 0) hx hb dX11_readTag_54 (by decide) ?_
    refine kcallv (wc := [(h, oX11 th aw ai ab ac hi re aP ta x1 en x2 de fa a5 sp av an ak ne aW aC ag aT aN aF), (aw, .inl (cI, 2179, .inl fw))]) (wr := [(aP, .inl (cB, 400, .inl ft))]) hP hD hS hA [1, 0] [2] rfl rfl (by decide) (by decide) (by decide) (fun hPc hDc hFc => va_runV (As := [.int 9, .int 0]) (rest := []) ⟨hx, hb, hml, hown, hts⟩ (r_emits l D cI cJ cB cC h th aw ai ab ac hi re aP ta x1 en x2 de fa a5 sp av an ak ne aW aC ag aT aN aF fw 9 0 H.size (rg_w H_sp (by decide)) H_fw_W H_fw_B H_fw_L) (cwV 2 hts gX11_readTag_X11_emits rfl rfl rfl ⟨rfl, hdX11_emits⟩ ⟨Nat.le_of_ble_eq_true rfl, Nat.le_of_ble_eq_true rfl⟩) ⟨kBlind, va_recv hK hPc (ci := 10) (q0 := 0) rfl rfl, fun U hU hW => ⟨rfl, by rw [hU], hN.warm hW, hE.pass hS hFc hW hU, by rw [hU]; exact hPc, va_K.moved hW.alike hK, hDc⟩⟩ rfl rfl hl.1 rfl (lv_room (Nat.le_of_ble_eq_true rfl)) dX11_readTag_55 ⟨Nat.le_of_ble_eq_true rfl, Nat.le_of_ble_eq_true rfl⟩) (fun u H locs hw hP hD hS => ?_)
    obtain ⟨x109, g110⟩ := u
    have hP : va_P D vwCl [(aP, .inl (cB, 400, .inl ft)), (h, oX11 th aw ai ab ac hi re aP ta x1 en x2 de fa a5 x109 av an ak ne aW aC ag aT aN aF), (aw, .inl (cI, 2179, .inl g110))] H := hP
    have hD : va_D A [(aP, .inl (cB, 400, .inl ft)), (h, oX11 th aw ai ab ac hi re aP ta x1 en x2 de fa a5 x109 av an ak ne aW aC ag aT aN aF), (aw, .inl (cI, 2179, .inl g110))] := hD
    obtain ⟨k111, k112, k113, k114, k115⟩ := hw
    refine lv_goto (tgt := 69) hx hb dX11_readTag_58 (by decide) ?_
    refine lv_iload_n hx hb dX11_readTag_69 rfl (lv_at hl 0 rfl) ?_
    refine lv_if_lt (tgt := 77) hx hb dX11_readTag_70 (by decide) (fun c117 => absurd c117 (by decide)) (fun _ => ?_)
    refine lv_iconst (v := 1) hx hb dX11_readTag_73 (by decide) ?_
    refine lv_goto (tgt := 78) hx hb dX11_readTag_74 (by decide) ?_
    have hP9 := hP.sub (ws' := [(h, oX11 th aw ai ab ac hi re aP ta x1 en x2 de fa a5 x109 av an ak ne aW aC ag aT aN aF), (aw, .inl (cI, 2179, .inl g110)), (aP, .inl (cB, 400, .inl ft))]) [1, 2, 0] rfl
    have hD9 := hD.sub (ws' := [(h, oX11 th aw ai ab ac hi re aP ta x1 en x2 de fa a5 x109 av an ak ne aW aC ag aT aN aF), (aw, .inl (cI, 2179, .inl g110)), (aP, .inl (cB, 400, .inl ft))]) [1, 2, 0] (by decide) rfl
    exact W.zret (v := 1) hx hb hr (by decide) (fun t ht hW => ⟨⟨1, (x1, x2, x109, g110), rfl, ⟨k3, k4, (rg_w k111 (by decide)), k112, k113, k114, (Or.inr ⟨rfl, (rOk_part k115 (by decide) (by have q0 := H_SP; have q1 := k5; have q3 := k6; have q5 := k13; have q8 := neI c37; have q9 := neI (Ne.symm c37); obtain ⟨-, -, u10, -⟩ := k115; have q12 : (0 : Int32).toInt = 0 := (by decide); have q13 : (1 : Int32).toInt = 1 := (by decide); have q14 : ((nI kSb20.length) : Int32).toInt = 4 := (by decide); unfold Rg at *; omega))⟩)⟩, by rw [ht]; exact hP9, va_K.moved hW.alike hK, hD9⟩, hS.F ht⟩) hS.2.2 dX11_readTag_78

def kwX11_readAtom : List Cond := .code yX11_readAtom cX11_readAtom 2 (some .boolean) :: kG
theorem hdX11_readAtom : yX11_readAtom.cls ≠ "java/lang/invoke/MethodHandle" ∧ yX11_readAtom.cls ≠ "java/lang/invoke/VarHandle" ∧ (parseMethodDescriptor yX11_readAtom.desc).map (fun d => d.parameters.length) = some 0 := by decide +kernel
theorem gX11_readAtom_X11_emits : GoodIn kG (wsV RX11 184 RX11 yX11_emits kwX11_emits) := gK w22_5 (gK w22_6 (gK w22_7 (gK w0_5 (gK w22_8 gGG))))
theorem gX11_readAtom_X11_passes : GoodIn kG (wsV RX11 216 RX11 yX11_passes kwX11_passes) := gK w21_18 (gK w21_19 (gK w21_20 (gK w0_5 (gK w21_21 gGG))))
theorem gX11_readAtom_X11_readSum : GoodIn kG (wsV RX11 225 RX11 yX11_readSum kwX11_readSum) := gK w22_22 (gK w22_23 (gK w23_0 (gK w0_5 (gK w23_1 gGG))))
theorem gX11_readAtom_X11_readTag : GoodIn kG (wsV RX11 222 RX11 yX11_readTag kwX11_readTag) := gK w22_18 (gK w22_19 (gK w22_20 (gK w0_5 (gK w22_21 gGG))))
theorem gX11_readAtom_X11_sign : GoodIn kG (wsV RX11 198 RX11 yX11_sign kwX11_sign) := gK w22_14 (gK w22_15 (gK w22_16 (gK w0_5 (gK w22_17 gGG))))
theorem dX11_readAtom_0 : decode cX11_readAtom 0 = .ok (.aload_n 0, 1) := by decide +kernel
theorem dX11_readAtom_1 : decode cX11_readAtom 1 = .ok (.bipush 40, 2) := by decide +kernel
theorem dX11_readAtom_3 : decode cX11_readAtom 3 = .ok (.invokevirtual 198, 3) := by decide +kernel
theorem dX11_readAtom_6 : decode cX11_readAtom 6 = .ok (.ifCond .eq 50, 3) := by decide +kernel
theorem dX11_readAtom_9 : decode cX11_readAtom 9 = .ok (.aload_n 0, 1) := by decide +kernel
theorem dX11_readAtom_10 : decode cX11_readAtom 10 = .ok (.getfield 208, 3) := by decide +kernel
theorem dX11_readAtom_13 : decode cX11_readAtom 13 = .ok (.bipush 6, 2) := by decide +kernel
theorem dX11_readAtom_15 : decode cX11_readAtom 15 = .ok (.if_icmp .ne 5, 3) := by decide +kernel
theorem dX11_readAtom_18 : decode cX11_readAtom 18 = .ok (.iconst 0, 1) := by decide +kernel
theorem dX11_readAtom_19 : decode cX11_readAtom 19 = .ok (.ireturn, 1) := by decide +kernel
theorem dX11_readAtom_56 : decode cX11_readAtom 56 = .ok (.aload_n 0, 1) := by decide +kernel
theorem dX11_readAtom_57 : decode cX11_readAtom 57 = .ok (.ldc 214, 2) := by decide +kernel
theorem dX11_readAtom_59 : decode cX11_readAtom 59 = .ok (.invokevirtual 216, 3) := by decide +kernel
theorem dX11_readAtom_62 : decode cX11_readAtom 62 = .ok (.ifCond .eq 52, 3) := by decide +kernel
theorem dX11_readAtom_65 : decode cX11_readAtom 65 = .ok (.aload_n 0, 1) := by decide +kernel
theorem dX11_readAtom_66 : decode cX11_readAtom 66 = .ok (.getfield 208, 3) := by decide +kernel
theorem dX11_readAtom_69 : decode cX11_readAtom 69 = .ok (.bipush 6, 2) := by decide +kernel
theorem dX11_readAtom_71 : decode cX11_readAtom 71 = .ok (.if_icmp .ne 5, 3) := by decide +kernel
theorem dX11_readAtom_74 : decode cX11_readAtom 74 = .ok (.iconst 0, 1) := by decide +kernel
theorem dX11_readAtom_75 : decode cX11_readAtom 75 = .ok (.ireturn, 1) := by decide +kernel
theorem dX11_readAtom_114 : decode cX11_readAtom 114 = .ok (.aload_n 0, 1) := by decide +kernel
theorem dX11_readAtom_115 : decode cX11_readAtom 115 = .ok (.invokevirtual 222, 3) := by decide +kernel
theorem dX11_readAtom_118 : decode cX11_readAtom 118 = .ok (.ifCond .eq 5, 3) := by decide +kernel
theorem dX11_readAtom_121 : decode cX11_readAtom 121 = .ok (.iconst 1, 1) := by decide +kernel
theorem dX11_readAtom_122 : decode cX11_readAtom 122 = .ok (.ireturn, 1) := by decide +kernel
theorem dX11_readAtom_123 : decode cX11_readAtom 123 = .ok (.aload_n 0, 1) := by decide +kernel
theorem dX11_readAtom_124 : decode cX11_readAtom 124 = .ok (.invokevirtual 225, 3) := by decide +kernel
theorem dX11_readAtom_127 : decode cX11_readAtom 127 = .ok (.ifCond .ne 5, 3) := by decide +kernel
theorem dX11_readAtom_130 : decode cX11_readAtom 130 = .ok (.iconst 0, 1) := by decide +kernel
theorem dX11_readAtom_131 : decode cX11_readAtom 131 = .ok (.ireturn, 1) := by decide +kernel
theorem dX11_readAtom_132 : decode cX11_readAtom 132 = .ok (.aload_n 0, 1) := by decide +kernel
theorem dX11_readAtom_133 : decode cX11_readAtom 133 = .ok (.bipush 60, 2) := by decide +kernel
theorem dX11_readAtom_135 : decode cX11_readAtom 135 = .ok (.invokevirtual 198, 3) := by decide +kernel
theorem dX11_readAtom_138 : decode cX11_readAtom 138 = .ok (.istore_n 1, 1) := by decide +kernel
theorem dX11_readAtom_139 : decode cX11_readAtom 139 = .ok (.iload_n 1, 1) := by decide +kernel
theorem dX11_readAtom_140 : decode cX11_readAtom 140 = .ok (.ifCond .ne 12, 3) := by decide +kernel
theorem dX11_readAtom_143 : decode cX11_readAtom 143 = .ok (.aload_n 0, 1) := by decide +kernel
theorem dX11_readAtom_144 : decode cX11_readAtom 144 = .ok (.bipush 62, 2) := by decide +kernel
theorem dX11_readAtom_146 : decode cX11_readAtom 146 = .ok (.invokevirtual 198, 3) := by decide +kernel
theorem dX11_readAtom_149 : decode cX11_readAtom 149 = .ok (.ifCond .eq 10, 3) := by decide +kernel
theorem dX11_readAtom_152 : decode cX11_readAtom 152 = .ok (.aload_n 0, 1) := by decide +kernel
theorem dX11_readAtom_153 : decode cX11_readAtom 153 = .ok (.invokevirtual 225, 3) := by decide +kernel
theorem dX11_readAtom_156 : decode cX11_readAtom 156 = .ok (.ifCond .ne 5, 3) := by decide +kernel
theorem dX11_readAtom_159 : decode cX11_readAtom 159 = .ok (.iconst 0, 1) := by decide +kernel
theorem dX11_readAtom_160 : decode cX11_readAtom 160 = .ok (.ireturn, 1) := by decide +kernel
theorem dX11_readAtom_161 : decode cX11_readAtom 161 = .ok (.aload_n 0, 1) := by decide +kernel
theorem dX11_readAtom_162 : decode cX11_readAtom 162 = .ok (.iload_n 1, 1) := by decide +kernel
theorem dX11_readAtom_163 : decode cX11_readAtom 163 = .ok (.ifCond .eq 8, 3) := by decide +kernel
theorem dX11_readAtom_166 : decode cX11_readAtom 166 = .ok (.bipush 14, 2) := by decide +kernel
theorem dX11_readAtom_168 : decode cX11_readAtom 168 = .ok (.goto 5, 3) := by decide +kernel
theorem dX11_readAtom_171 : decode cX11_readAtom 171 = .ok (.bipush 15, 2) := by decide +kernel
theorem dX11_readAtom_173 : decode cX11_readAtom 173 = .ok (.iconst 0, 1) := by decide +kernel
theorem dX11_readAtom_174 : decode cX11_readAtom 174 = .ok (.invokevirtual 184, 3) := by decide +kernel
theorem dX11_readAtom_177 : decode cX11_readAtom 177 = .ok (.iconst 1, 1) := by decide +kernel
theorem dX11_readAtom_178 : decode cX11_readAtom 178 = .ok (.ireturn, 1) := by decide +kernel
set_option maxHeartbeats 4000000 in
set_option maxRecDepth 100000 in
/-- reference: readAtom -/
theorem r_readAtom6 (l : Launch) (D : va_G) (cI cJ cB cC : ClassId) (h : Nat) (th : Int32) (aw : Nat) (ai : Nat) (ab : Nat) (ac : Nat) (hi : Int32) (re : Int32) (aP : Nat) (ta : Int32) (po : Int32) (en : Int32) (be : Int32) (fa : Int32) (a5 : Nat) (sp : Int32) (av : Nat) (an : Nat) (ak : Nat) (ne : Int32) (aW : Nat) (aC : Nat) (ag : Nat) (aT : Nat) (aN : Nat) (aF : Nat) (fw : Nat → Int32) (ft : Nat → Int32) (sz : Nat) (H_po : Rg po 0 400) (H_en : Rg en 0 400) (H_sp : Rg sp 0 395) (H_fw_W : wW fw) (H_fw_B : wB fw) (H_fw_L : wL fw) (H_SP : (sp : Int32).toInt + 5 ≤ (po : Int32).toInt) : Met l yX11_readAtom kwX11_readAtom ({ frames := 7, cells := 0, slots := 0, locals := 149 } : Room) (kPre D (kT cI cJ cB cC) sz [(h, oX11 th aw ai ab ac hi re aP ta po en be 6 fa a5 sp av an ak ne aW aC ag aT aN aF), (aw, .inl (cI, 2179, .inl fw)), (aP, .inl (cB, 400, .inl ft))] [.ref h]) (va_Qi (fun (r : Int32) (uu : Int32 × Int32 × Int32 × (Nat → Int32)) => match uu with | (n0_, n1_, n2_, f3_) => Rg n0_ 0 400 ∧ Rg n1_ 0 400 ∧ Rg n2_ 0 400 ∧ wB f3_ ∧ wL f3_ ∧ wW f3_ ∧ ((r = 0) ∨ (r = 1 ∧ rOk fw f3_ sp n2_ po n0_ 1 ∧ (6 : Int32).toInt = 6))) (fun (uu : Int32 × Int32 × Int32 × (Nat → Int32)) (t : State) => match uu with | (n0_, n1_, n2_, f3_) => kB D (kT cI cJ cB cC) (va_A [(h, oX11 th aw ai ab ac hi re aP ta po en be 6 fa a5 sp av an ak ne aW aC ag aT aN aF), (aw, .inl (cI, 2179, .inl fw)), (aP, .inl (cB, 400, .inl ft))] sz) [(h, oX11 th aw ai ab ac hi re aP ta n0_ en n1_ 6 fa a5 n2_ av an ak ne aW aC ag aT aN aF), (aw, .inl (cI, 2179, .inl f3_)), (aP, .inl (cB, 400, .inl ft))] t) (va_A [(h, oX11 th aw ai ab ac hi re aP ta po en be 6 fa a5 sp av an ak ne aW aC ag aT aN aF), (aw, .inl (cI, 2179, .inl fw)), (aP, .inl (cB, 400, .inl ft))] sz)) 0 0 (va_A [(h, oX11 th aw ai ab ac hi re aP ta po en be 6 fa a5 sp av an ak ne aW aC ag aT aN aF), (aw, .inl (cI, 2179, .inl fw)), (aP, .inl (cB, 400, .inl ft))] sz) := by
  refine Met.ofW (cc := cX11_readAtom) (maxL := 2) (ret := (some .boolean)) (by decide) rfl ?_
  intro p e s m args below meth c s₁ B hml hv
  obtain ⟨rfl, hsz, hN, hE, hP, hK, hD0⟩ := hv
  have hx := B.exec
  have hb := B.bytes
  have hr := B.returns
  have hts := fun (w : Cond) (h : w ∈ kG) => atoms_spec (ws := kwX11_readAtom) B.pre w (List.mem_cons_of_mem _ h)
  have hown : s.vm.findClass RX11 = some m.cls := findClass_of_methodNamed B.named
  subst hsz
  have hD := hD0.self (sz := s.heap.size)
  generalize hAe : va_A [(h, oX11 th aw ai ab ac hi re aP ta po en be 6 fa a5 sp av an ak ne aW aC ag aT aN aF), (aw, .inl (cI, 2179, .inl fw)), (aP, .inl (cB, 400, .inl ft))] s.heap.size = A at hD hE ⊢
  have hA : ∀ q : Nat, s.heap.size ≤ q → A q := fun q h => by rw [← hAe]; exact Or.inr h
  have hl := lv_entry ([.ref h]) (n := 2) (Nat.le_of_ble_eq_true rfl)
  rw [lg_entry_eq]
  generalize (lg_sl ([.ref h]) ++ List.replicate (2 - (lg_sl ([.ref h])).length) Slot.unset).toArray = ls at hl ⊢
  have hl : lv_has ls 2 [(0, .ref h)] := hl
  obtain ⟨H, hH0⟩ : ∃ H, H = s.heap := ⟨_, rfl⟩
  have hS : va_S A s.heap H [] := by rw [hH0]; exact va_S.rf
  have hP : va_P D vwCl [(h, oX11 th aw ai ab ac hi re aP ta po en be 6 fa a5 sp av an ak ne aW aC ag aT aN aF), (aw, .inl (cI, 2179, .inl fw)), (aP, .inl (cB, 400, .inl ft))] H := by rw [hH0]; exact hP
  refine kHeap hH0 ?_
  clear hH0
  refine lv_aload_n hx hb dX11_readAtom_0 rfl (lv_at hl 0 rfl) ?_
  refine lv_bipush (v := 40) hx hb dX11_readAtom_1 (by decide) ?_
  refine kcalli (wc := [(h, oX11 th aw ai ab ac hi re aP ta po en be 6 fa a5 sp av an ak ne aW aC ag aT aN aF), (aP, .inl (cB, 400, .inl ft))]) (wr := [(aw, .inl (cI, 2179, .inl fw))]) hP hD hS hA [0, 2] [1] rfl rfl (by decide) (by decide) (by decide) (fun hPc hDc hFc => va_runV (As := [.int 40]) (rest := []) ⟨hx, hb, hml, hown, hts⟩ (r_sign l D cI cJ cB cC h th aw ai ab ac hi re aP ta po en be 6 fa a5 sp av an ak ne aW aC ag aT aN aF ft 40 H.size H_po H_en) (cwV 1 hts gX11_readAtom_X11_sign rfl rfl rfl ⟨rfl, hdX11_sign⟩ ⟨Nat.le_of_ble_eq_true rfl, Nat.le_of_ble_eq_true rfl⟩) ⟨kBlind, va_recv hK hPc (ci := 10) (q0 := 0) rfl rfl, fun U hU hW => ⟨rfl, by rw [hU], hN.warm hW, hE.pass hS hFc hW hU, by rw [hU]; exact hPc, va_K.moved hW.alike hK, hDc⟩⟩ rfl rfl hl.1 rfl (lv_room (Nat.le_of_ble_eq_true rfl)) dX11_readAtom_3 ⟨Nat.le_of_ble_eq_true rfl, Nat.le_of_ble_eq_true rfl⟩) (fun r1 u H locs hw hP hD hS => ?_)
  obtain ⟨x2, x3⟩ := u
  have hP : va_P D vwCl [(aw, .inl (cI, 2179, .inl fw)), (h, oX11 th aw ai ab ac hi re aP ta x2 en x3 6 fa a5 sp av an ak ne aW aC ag aT aN aF), (aP, .inl (cB, 400, .inl ft))] H := hP
  have hD : va_D A [(aw, .inl (cI, 2179, .inl fw)), (h, oX11 th aw ai ab ac hi re aP ta x2 en x3 6 fa a5 sp av an ak ne aW aC ag aT aN aF), (aP, .inl (cB, 400, .inl ft))] := hD
  obtain ⟨k4, k5, hw⟩ := hw
  rcases hw with ⟨rfl, kc6_0⟩ | ⟨rfl, kc6_0, kc6_1⟩
  · skip
    refine lv_if_eq (tgt := 56) hx hb dX11_readAtom_6 (by decide) (fun _ => ?_) (fun c7 => absurd (by decide) c7)
    refine lv_aload_n hx hb dX11_readAtom_56 rfl (lv_at hl 0 rfl) ?_
    obtain ⟨q8, q9, hR10, hT11⟩ := kTx_19 hE.2.2
    refine va_ldcS hx hb hown hR10 dX11_readAtom_57 ?_
    refine kcalli (wc := [(h, oX11 th aw ai ab ac hi re aP ta x2 en x3 6 fa a5 sp av an ak ne aW aC ag aT aN aF), (aP, .inl (cB, 400, .inl ft))]) (wr := [(aw, .inl (cI, 2179, .inl fw))]) hP hD hS hA [1, 2] [0] rfl rfl (by decide) (by decide) (by decide) (fun hPc hDc hFc => va_runV (As := [.ref q8]) (rest := []) ⟨hx, hb, hml, hown, hts⟩ (r_passes l D cI cJ cB cC h th aw ai ab ac hi re aP ta x2 en x3 6 fa a5 sp av an ak ne aW aC ag aT aN aF ft q8 kSb19 q9 H.size k4 H_en kSb19_le) (cwV 1 hts gX11_readAtom_X11_passes rfl rfl rfl ⟨rfl, hdX11_passes⟩ ⟨Nat.le_of_ble_eq_true rfl, Nat.le_of_ble_eq_true rfl⟩) ⟨kBlindT, va_recv hK hPc (ci := 10) (q0 := 0) rfl rfl, fun U hU hW => ⟨rfl, by rw [hU], hN.warm hW, hE.pass hS hFc hW hU, hT11.pass hS hFc hW hU, by rw [hU]; exact hPc, va_K.moved hW.alike hK, hDc⟩⟩ rfl rfl hl.1 rfl (lv_room (Nat.le_of_ble_eq_true rfl)) dX11_readAtom_59 ⟨Nat.le_of_ble_eq_true rfl, Nat.le_of_ble_eq_true rfl⟩) (fun r12 u H locs hw hP hD hS => ?_)
    obtain ⟨x13, x14⟩ := u
    have hP : va_P D vwCl [(aw, .inl (cI, 2179, .inl fw)), (h, oX11 th aw ai ab ac hi re aP ta x13 en x14 6 fa a5 sp av an ak ne aW aC ag aT aN aF), (aP, .inl (cB, 400, .inl ft))] H := hP
    have hD : va_D A [(aw, .inl (cI, 2179, .inl fw)), (h, oX11 th aw ai ab ac hi re aP ta x13 en x14 6 fa a5 sp av an ak ne aW aC ag aT aN aF), (aP, .inl (cB, 400, .inl ft))] := hD
    obtain ⟨k15, k16, hw⟩ := hw
    rcases hw with ⟨rfl, kc17_0⟩ | ⟨rfl, kc17_0⟩
    · skip
      refine lv_if_eq (tgt := 114) hx hb dX11_readAtom_62 (by decide) (fun _ => ?_) (fun c18 => absurd (by decide) c18)
      refine lv_aload_n hx hb dX11_readAtom_114 rfl (lv_at hl 0 rfl) ?_
      have k19 : (sp : Int32).toInt + 5 ≤ (x13 : Int32).toInt := (by have q0 := H_SP; have q1 := kc6_0; have q3 := kc17_0; have q4 := H_sp; have q5 := k15; have q6 : (0 : Int32).toInt = 0 := (by decide); have q7 : (1 : Int32).toInt = 1 := (by decide); unfold Rg at *; omega)
      refine kcalli (wc := [(h, oX11 th aw ai ab ac hi re aP ta x13 en x14 6 fa a5 sp av an ak ne aW aC ag aT aN aF), (aw, .inl (cI, 2179, .inl fw)), (aP, .inl (cB, 400, .inl ft))]) (wr := []) hP hD hS hA [1, 0, 2] [] rfl rfl (by decide) (by decide) (by decide) (fun hPc hDc hFc => va_runV (As := []) (rest := []) ⟨hx, hb, hml, hown, hts⟩ (r_readTag l D cI cJ cB cC h th aw ai ab ac hi re aP ta x13 en x14 6 fa a5 sp av an ak ne aW aC ag aT aN aF fw ft H.size k15 H_en H_sp H_fw_W H_fw_B H_fw_L k19) (cwV 0 hts gX11_readAtom_X11_readTag rfl rfl rfl ⟨rfl, hdX11_readTag⟩ ⟨Nat.le_of_ble_eq_true rfl, Nat.le_of_ble_eq_true rfl⟩) ⟨kBlind, va_recv hK hPc (ci := 10) (q0 := 0) rfl rfl, fun U hU hW => ⟨rfl, by rw [hU], hN.warm hW, hE.pass hS hFc hW hU, by rw [hU]; exact hPc, va_K.moved hW.alike hK, hDc⟩⟩ rfl rfl hl.1 rfl (lv_room (Nat.le_of_ble_eq_true rfl)) dX11_readAtom_115 ⟨Nat.le_of_ble_eq_true rfl, Nat.le_of_ble_eq_true rfl⟩) (fun r20 u H locs hw hP hD hS => ?_)
      obtain ⟨x21, x22, x23, g24⟩ := u
      have hP : va_P D vwCl [(h, oX11 th aw ai ab ac hi re aP ta x21 en x22 6 fa a5 x23 av an ak ne aW aC ag aT aN aF), (aw, .inl (cI, 2179, .inl g24)), (aP, .inl (cB, 400, .inl ft))] H := hP
      have hD : va_D A [(h, oX11 th aw ai ab ac hi re aP ta x21 en x22 6 fa a5 x23 av an ak ne aW aC ag aT aN aF), (aw, .inl (cI, 2179, .inl g24)), (aP, .inl (cB, 400, .inl ft))] := hD
      obtain ⟨k25, k26, k27, k28, k29, k30, hw⟩ := hw
      rcases hw with ⟨rfl, kc31_0⟩ | ⟨rfl, kc31_0⟩
      · skip
        refine lv_if_eq (tgt := 123) hx hb dX11_readAtom_118 (by decide) (fun _ => ?_) (fun c32 => absurd (by decide) c32)
        refine lv_aload_n hx hb dX11_readAtom_123 rfl (lv_at hl 0 rfl) ?_
        have k33 : (x23 : Int32).toInt + 5 ≤ (x21 : Int32).toInt := (by have q0 := H_SP; have q1 := kc6_0; have q3 := kc17_0; have q4 := k19; obtain ⟨-, -, u5, v5, w5⟩ := kc31_0; have q6 := k27; have q7 := k25; have q8 : (0 : Int32).toInt = 0 := (by decide); have q9 : (1 : Int32).toInt = 1 := (by decide); unfold Rg at *; omega)
        have k34 : Rg x23 0 395 := (by have q1 := k33; have q2 := k27; have q3 := k25; unfold Rg at *; exact ⟨by omega, by omega⟩)
        refine kcalli (wc := [(h, oX11 th aw ai ab ac hi re aP ta x21 en x22 6 fa a5 x23 av an ak ne aW aC ag aT aN aF), (aw, .inl (cI, 2179, .inl g24)), (aP, .inl (cB, 400, .inl ft))]) (wr := []) hP hD hS hA [0, 1, 2] [] rfl rfl (by decide) (by decide) (by decide) (fun hPc hDc hFc => va_runV (As := []) (rest := []) ⟨hx, hb, hml, hown, hts⟩ (r_readSum l D cI cJ cB cC h th aw ai ab ac hi re aP ta x21 en x22 6 fa a5 x23 av an ak ne aW aC ag aT aN aF g24 ft H.size k25 H_en k34 k30 k28 k29 k33) (cwV 0 hts gX11_readAtom_X11_readSum rfl rfl rfl ⟨rfl, hdX11_readSum⟩ ⟨Nat.le_of_ble_eq_true rfl, Nat.le_of_ble_eq_true rfl⟩) ⟨kBlind, va_recv hK hPc (ci := 10) (q0 := 0) rfl rfl, fun U hU hW => ⟨rfl, by rw [hU], hN.warm hW, hE.pass hS hFc hW hU, by rw [hU]; exact hPc, va_K.moved hW.alike hK, hDc⟩⟩ rfl rfl hl.1 rfl (lv_room (Nat.le_of_ble_eq_true rfl)) dX11_readAtom_124 ⟨Nat.le_of_ble_eq_true rfl, Nat.le_of_ble_eq_true rfl⟩) (fun r35 u H locs hw hP hD hS => ?_)
        obtain ⟨x36, x37, x38, g39⟩ := u
        have hP : va_P D vwCl [(h, oX11 th aw ai ab ac hi re aP ta x36 en x37 6 fa a5 x38 av an ak ne aW aC ag aT aN aF), (aw, .inl (cI, 2179, .inl g39)), (aP, .inl (cB, 400, .inl ft))] H := hP
        have hD : va_D A [(h, oX11 th aw ai ab ac hi re aP ta x36 en x37 6 fa a5 x38 av an ak ne aW aC ag aT aN aF), (aw, .inl (cI, 2179, .inl g39)), (aP, .inl (cB, 400, .inl ft))] := hD
        obtain ⟨k40, k41, k42, k43, k44, k45, hw⟩ := hw
        rcases hw with rfl | ⟨rfl, kc46_0⟩
        · skip
          refine lv_if_ne (tgt := 132) hx hb dX11_readAtom_127 (by decide) (fun c47 => absurd (by decide) c47) (fun _ => ?_)
          refine lv_iconst (v := 0) hx hb dX11_readAtom_130 (by decide) ?_
          have hP9 := hP.sub (ws' := [(h, oX11 th aw ai ab ac hi re aP ta x36 en x37 6 fa a5 x38 av an ak ne aW aC ag aT aN aF), (aw, .inl (cI, 2179, .inl g39)), (aP, .inl (cB, 400, .inl ft))]) [0, 1, 2] rfl
          have hD9 := hD.sub (ws' := [(h, oX11 th aw ai ab ac hi re aP ta x36 en x37 6 fa a5 x38 av an ak ne aW aC ag aT aN aF), (aw, .inl (cI, 2179, .inl g39)), (aP, .inl (cB, 400, .inl ft))]) [0, 1, 2] (by decide) rfl
          exact W.zret (v := 0) hx hb hr (by decide) (fun t ht hW => ⟨⟨0, (x36, x37, x38, g39), rfl, ⟨k40, k41, k42, k43, k44, k45, (Or.inl rfl)⟩, by rw [ht]; exact hP9, va_K.moved hW.alike hK, hD9⟩, hS.F ht⟩) hS.2.2 dX11_readAtom_131
        · skip
          refine lv_if_ne (tgt := 132) hx hb dX11_readAtom_127 (by decide) (fun _ => ?_) (fun c48 => absurd c48 (by decide))
          refine lv_aload_n hx hb dX11_readAtom_132 rfl (lv_at hl 0 rfl) ?_
          refine lv_bipush (v := 60) hx hb dX11_readAtom_133 (by decide) ?_
          refine kcalli (wc := [(h, oX11 th aw ai ab ac hi re aP ta x36 en x37 6 fa a5 x38 av an ak ne aW aC ag aT aN aF), (aP, .inl (cB, 400, .inl ft))]) (wr := [(aw, .inl (cI, 2179, .inl g39))]) hP hD hS hA [0, 2] [1] rfl rfl (by decide) (by decide) (by decide) (fun hPc hDc hFc => va_runV (As := [.int 60]) (rest := []) ⟨hx, hb, hml, hown, hts⟩ (r_sign l D cI cJ cB cC h th aw ai ab ac hi re aP ta x36 en x37 6 fa a5 x38 av an ak ne aW aC ag aT aN aF ft 60 H.size k40 H_en) (cwV 1 hts gX11_readAtom_X11_sign rfl rfl rfl ⟨rfl, hdX11_sign⟩ ⟨Nat.le_of_ble_eq_true rfl, Nat.le_of_ble_eq_true rfl⟩) ⟨kBlind, va_recv hK hPc (ci := 10) (q0 := 0) rfl rfl, fun U hU hW => ⟨rfl, by rw [hU], hN.warm hW, hE.pass hS hFc hW hU, by rw [hU]; exact hPc, va_K.moved hW.alike hK, hDc⟩⟩ rfl rfl hl.1 rfl (lv_room (Nat.le_of_ble_eq_true rfl)) dX11_readAtom_135 ⟨Nat.le_of_ble_eq_true rfl, Nat.le_of_ble_eq_true rfl⟩) (fun r49 u H locs hw hP hD hS => ?_)
          obtain ⟨x50, x51⟩ := u
          have hP : va_P D vwCl [(aw, .inl (cI, 2179, .inl g39)), (h, oX11 th aw ai ab ac hi re aP ta x50 en x51 6 fa a5 x38 av an ak ne aW aC ag aT aN aF), (aP, .inl (cB, 400, .inl ft))] H := hP
          have hD : va_D A [(aw, .inl (cI, 2179, .inl g39)), (h, oX11 th aw ai ab ac hi re aP ta x50 en x51 6 fa a5 x38 av an ak ne aW aC ag aT aN aF), (aP, .inl (cB, 400, .inl ft))] := hD
          obtain ⟨k52, k53, hw⟩ := hw
          rcases hw with ⟨rfl, kc54_0⟩ | ⟨rfl, kc54_0, kc54_1⟩
          · skip
            refine lv_istore_n (lv' := [(1, .int 0), (0, .ref h)]) hx hb dX11_readAtom_138 rfl hl (by decide) rfl (fun ls hl => ?_)
            refine lv_iload_n hx hb dX11_readAtom_139 rfl (lv_at hl 0 rfl) ?_
            refine k_join (hd := 159) (cells2 := 0) (slots2 := 0) (fun (u : (Nat → Int32) × Int32 × Int32 × Int32) => match u with | (g94, y95, y96, y97) => []) (fun (u : (Nat → Int32) × Int32 × Int32 × Int32) (H : Heap) (locs : List Loc) (ls : Array Slot) => match u with | (g94, y95, y96, y97) => wB g94 ∧ wL g94 ∧ wW g94 ∧ Rg y95 0 400 ∧ Rg y96 0 400 ∧ Rg y97 0 400 ∧ va_P D vwCl [(aw, .inl (cI, 2179, .inl g94)), (h, oX11 th aw ai ab ac hi re aP ta y95 en y96 6 fa a5 y97 av an ak ne aW aC ag aT aN aF), (aP, .inl (cB, 400, .inl ft))] H ∧ va_D A [(aw, .inl (cI, 2179, .inl g94)), (h, oX11 th aw ai ab ac hi re aP ta y95 en y96 6 fa a5 y97 av an ak ne aW aC ag aT aN aF), (aP, .inl (cB, 400, .inl ft))] ∧ va_S A s.heap H locs ∧ lv_has ls 2 [(1, .int 0), (0, .ref h)]) (fun u H locs ls hI => ?_) (fun hJ159 => ?_)
            · skip
              clear hP hD hS hl
              obtain ⟨g94, y95, y96, y97⟩ := u
              obtain ⟨hg94_0, hg94_1, hg94_2, hy95, hy96, hy97, hP, hD, hS, hl⟩ := hI
              have hP : va_P D vwCl [(aw, .inl (cI, 2179, .inl g94)), (h, oX11 th aw ai ab ac hi re aP ta y95 en y96 6 fa a5 y97 av an ak ne aW aC ag aT aN aF), (aP, .inl (cB, 400, .inl ft))] H := hP
              have hD : va_D A [(aw, .inl (cI, 2179, .inl g94)), (h, oX11 th aw ai ab ac hi re aP ta y95 en y96 6 fa a5 y97 av an ak ne aW aC ag aT aN aF), (aP, .inl (cB, 400, .inl ft))] := hD
              have hl : lv_has ls 2 [(1, .int 0), (0, .ref h)] := hl
              refine lv_iconst (v := 0) hx hb dX11_readAtom_159 (by decide) ?_
              have hP9 := hP.sub (ws' := [(h, oX11 th aw ai ab ac hi re aP ta y95 en y96 6 fa a5 y97 av an ak ne aW aC ag aT aN aF), (aw, .inl (cI, 2179, .inl g94)), (aP, .inl (cB, 400, .inl ft))]) [1, 0, 2] rfl
              have hD9 := hD.sub (ws' := [(h, oX11 th aw ai ab ac hi re aP ta y95 en y96 6 fa a5 y97 av an ak ne aW aC ag aT aN aF), (aw, .inl (cI, 2179, .inl g94)), (aP, .inl (cB, 400, .inl ft))]) [1, 0, 2] (by decide) rfl
              exact W.zret (v := 0) hx hb hr (by decide) (fun t ht hW => ⟨⟨0, (y95, y96, y97, g94), rfl, ⟨hy95, hy96, hy97, hg94_0, hg94_1, hg94_2, (Or.inl rfl)⟩, by rw [ht]; exact hP9, va_K.moved hW.alike hK, hD9⟩, hS.F ht⟩) hS.2.2 dX11_readAtom_160
            refine lv_if_ne (tgt := 152) hx hb dX11_readAtom_140 (by decide) (fun c98 => absurd (by decide) c98) (fun _ => ?_)
            refine lv_aload_n hx hb dX11_readAtom_143 rfl (lv_at hl 1 rfl) ?_
            refine lv_bipush (v := 62) hx hb dX11_readAtom_144 (by decide) ?_
            refine kcalli (wc := [(h, oX11 th aw ai ab ac hi re aP ta x50 en x51 6 fa a5 x38 av an ak ne aW aC ag aT aN aF), (aP, .inl (cB, 400, .inl ft))]) (wr := [(aw, .inl (cI, 2179, .inl g39))]) hP hD hS hA [1, 2] [0] rfl rfl (by decide) (by decide) (by decide) (fun hPc hDc hFc => va_runV (As := [.int 62]) (rest := []) ⟨hx, hb, hml, hown, hts⟩ (r_sign l D cI cJ cB cC h th aw ai ab ac hi re aP ta x50 en x51 6 fa a5 x38 av an ak ne aW aC ag aT aN aF ft 62 H.size k52 H_en) (cwV 1 hts gX11_readAtom_X11_sign rfl rfl rfl ⟨rfl, hdX11_sign⟩ ⟨Nat.le_of_ble_eq_true rfl, Nat.le_of_ble_eq_true rfl⟩) ⟨kBlind, va_recv hK hPc (ci := 10) (q0 := 0) rfl rfl, fun U hU hW => ⟨rfl, by rw [hU], hN.warm hW, hE.pass hS hFc hW hU, by rw [hU]; exact hPc, va_K.moved hW.alike hK, hDc⟩⟩ rfl rfl hl.1 rfl (lv_room (Nat.le_of_ble_eq_true rfl)) dX11_readAtom_146 ⟨Nat.le_of_ble_eq_true rfl, Nat.le_of_ble_eq_true rfl⟩) (fun r99 u H locs hw hP hD hS => ?_)
            obtain ⟨x100, x101⟩ := u
            have hP : va_P D vwCl [(aw, .inl (cI, 2179, .inl g39)), (h, oX11 th aw ai ab ac hi re aP ta x100 en x101 6 fa a5 x38 av an ak ne aW aC ag aT aN aF), (aP, .inl (cB, 400, .inl ft))] H := hP
            have hD : va_D A [(aw, .inl (cI, 2179, .inl g39)), (h, oX11 th aw ai ab ac hi re aP ta x100 en x101 6 fa a5 x38 av an ak ne aW aC ag aT aN aF), (aP, .inl (cB, 400, .inl ft))] := hD
            obtain ⟨k102, k103, hw⟩ := hw
            rcases hw with ⟨rfl, kc104_0⟩ | ⟨rfl, kc104_0, kc104_1⟩
            · skip
              refine lv_if_eq (tgt := 159) hx hb dX11_readAtom_149 (by decide) (fun _ => ?_) (fun c105 => absurd (by decide) c105)
              exact hJ159 (g39, x100, x101, x38) _ _ _ ⟨k43, k44, k45, k102, k103, k42, hP.sub (ws' := [(aw, .inl (cI, 2179, .inl g39)), (h, oX11 th aw ai ab ac hi re aP ta x100 en x101 6 fa a5 x38 av an ak ne aW aC ag aT aN aF), (aP, .inl (cB, 400, .inl ft))]) [0, 1, 2] rfl, hD.sub (ws' := [(aw, .inl (cI, 2179, .inl g39)), (h, oX11 th aw ai ab ac hi re aP ta x100 en x101 6 fa a5 x38 av an ak ne aW aC ag aT aN aF), (aP, .inl (cB, 400, .inl ft))]) [0, 1, 2] (by decide) rfl, hS, lv_sub (l' := [(1, .int 0), (0, .ref h)]) hl [0, 1] rfl⟩
            · skip
              refine lv_if_eq (tgt := 159) hx hb dX11_readAtom_149 (by decide) (fun c106 => absurd c106 (by decide)) (fun _ => ?_)
              refine lv_aload_n hx hb dX11_readAtom_152 rfl (lv_at hl 1 rfl) ?_
              have k107 : (x38 : Int32).toInt + 5 ≤ (x100 : Int32).toInt := (by have q0 := H_SP; have q1 := kc6_0; have q3 := kc17_0; have q4 := k19; obtain ⟨-, -, u5, v5, w5⟩ := kc31_0; have q6 := k33; obtain ⟨-, -, u7, v7, w7⟩ := kc46_0; have q8 := kc54_0; have q9 := kc104_1; have q10 := k42; have q11 := k102; have q12 : (0 : Int32).toInt = 0 := (by decide); have q13 : (1 : Int32).toInt = 1 := (by decide); unfold Rg at *; omega)
              have k108 : Rg x38 0 395 := (by have q1 := k107; have q2 := k42; have q3 := k102; unfold Rg at *; exact ⟨by omega, by omega⟩)
              refine kcalli (wc := [(h, oX11 th aw ai ab ac hi re aP ta x100 en x101 6 fa a5 x38 av an ak ne aW aC ag aT aN aF), (aw, .inl (cI, 2179, .inl g39)), (aP, .inl (cB, 400, .inl ft))]) (wr := []) hP hD hS hA [1, 0, 2] [] rfl rfl (by decide) (by decide) (by decide) (fun hPc hDc hFc => va_runV (As := []) (rest := []) ⟨hx, hb, hml, hown, hts⟩ (r_readSum l D cI cJ cB cC h th aw ai ab ac hi re aP ta x100 en x101 6 fa a5 x38 av an ak ne aW aC ag aT aN aF g39 ft H.size k102 (rg_w kc104_0 (by decide)) k108 k45 k43 k44 k107) (cwV 0 hts gX11_readAtom_X11_readSum rfl rfl rfl ⟨rfl, hdX11_readSum⟩ ⟨Nat.le_of_ble_eq_true rfl, Nat.le_of_ble_eq_true rfl⟩) ⟨kBlind, va_recv hK hPc (ci := 10) (q0 := 0) rfl rfl, fun U hU hW => ⟨rfl, by rw [hU], hN.warm hW, hE.pass hS hFc hW hU, by rw [hU]; exact hPc, va_K.moved hW.alike hK, hDc⟩⟩ rfl rfl hl.1 rfl (lv_room (Nat.le_of_ble_eq_true rfl)) dX11_readAtom_153 ⟨Nat.le_of_ble_eq_true rfl, Nat.le_of_ble_eq_true rfl⟩) (fun r109 u H locs hw hP hD hS => ?_)
              obtain ⟨x110, x111, x112, g113⟩ := u
              have hP : va_P D vwCl [(h, oX11 th aw ai ab ac hi re aP ta x110 en x111 6 fa a5 x112 av an ak ne aW aC ag aT aN aF), (aw, .inl (cI, 2179, .inl g113)), (aP, .inl (cB, 400, .inl ft))] H := hP
              have hD : va_D A [(h, oX11 th aw ai ab ac hi re aP ta x110 en x111 6 fa a5 x112 av an ak ne aW aC ag aT aN aF), (aw, .inl (cI, 2179, .inl g113)), (aP, .inl (cB, 400, .inl ft))] := hD
              obtain ⟨k114, k115, k116, k117, k118, k119, hw⟩ := hw
              rcases hw with rfl | ⟨rfl, kc120_0⟩
              · skip
                refine lv_if_ne (tgt := 161) hx hb dX11_readAtom_156 (by decide) (fun c121 => absurd (by decide) c121) (fun _ => ?_)
                exact hJ159 (g113, x110, x111, x112) _ _ _ ⟨k117, k118, k119, k114, k115, k116, hP.sub (ws' := [(aw, .inl (cI, 2179, .inl g113)), (h, oX11 th aw ai ab ac hi re aP ta x110 en x111 6 fa a5 x112 av an ak ne aW aC ag aT aN aF), (aP, .inl (cB, 400, .inl ft))]) [1, 0, 2] rfl, hD.sub (ws' := [(aw, .inl (cI, 2179, .inl g113)), (h, oX11 th aw ai ab ac hi re aP ta x110 en x111 6 fa a5 x112 av an ak ne aW aC ag aT aN aF), (aP, .inl (cB, 400, .inl ft))]) [1, 0, 2] (by decide) rfl, hS, lv_sub (l' := [(1, .int 0), (0, .ref h)]) hl [0, 1] rfl⟩
              · skip
                refine lv_if_ne (tgt := 161) hx hb dX11_readAtom_156 (by decide) (fun _ => ?_) (fun c122 => absurd c122 (by decide))
                refine lv_aload_n hx hb dX11_readAtom_161 rfl (lv_at hl 1 rfl) ?_
                refine lv_iload_n hx hb dX11_readAtom_162 rfl (lv_at hl 0 rfl) ?_
                refine lv_if_eq (tgt := 171) hx hb dX11_readAtom_163 (by decide) (fun _ => ?_) (fun c124 => absurd (by decide) c124)
                refine lv_bipush (v := 15) hx hb dX11_readAtom_171 (by decide) ?_
                refine lv_iconst (v := 0) hx hb dX11_readAtom_173 (by decide) ?_
                have k125 : (x112 : Int32).toInt + 5 ≤ (x110 : Int32).toInt := (by have q0 := H_SP; have q1 := kc6_0; have q3 := kc17_0; have q4 := k19; obtain ⟨-, -, u5, v5, w5⟩ := kc31_0; have q6 := k33; obtain ⟨-, -, u7, v7, w7⟩ := kc46_0; have q8 := kc54_0; have q9 := kc104_1; have q10 := k107; obtain ⟨-, -, u11, v11, w11⟩ := kc120_0; have q12 := k116; have q13 := k114; have q14 : (0 : Int32).toInt = 0 := (by decide); have q15 : (1 : Int32).toInt = 1 := (by decide); unfold Rg at *; omega)
                have k126 : Rg x112 0 395 := (by have q1 := k125; have q2 := k116; have q3 := k114; unfold Rg at *; exact ⟨by omega, by omega⟩)
                refine kcallv (wc := [(h, oX11 th aw ai ab ac hi re aP ta x110 en x111 6 fa a5 x112 av an ak ne aW aC ag aT aN aF), (aw, .inl (cI, 2179, .inl g113))]) (wr := [(aP, .inl (cB, 400, .inl ft))]) hP hD hS hA [0, 1] [2] rfl rfl (by decide) (by decide) (by decide) (fun hPc hDc hFc => va_runV (As := [.int 15, .int 0]) (rest := []) ⟨hx, hb, hml, hown, hts⟩ (r_emits l D cI cJ cB cC h th aw ai ab ac hi re aP ta x110 en x111 6 fa a5 x112 av an ak ne aW aC ag aT aN aF g113 15 0 H.size (rg_w k126 (by decide)) k119 k117 k118) (cwV 2 hts gX11_readAtom_X11_emits rfl rfl rfl ⟨rfl, hdX11_emits⟩ ⟨Nat.le_of_ble_eq_true rfl, Nat.le_of_ble_eq_true rfl⟩) ⟨kBlind, va_recv hK hPc (ci := 10) (q0 := 0) rfl rfl, fun U hU hW => ⟨rfl, by rw [hU], hN.warm hW, hE.pass hS hFc hW hU, by rw [hU]; exact hPc, va_K.moved hW.alike hK, hDc⟩⟩ rfl rfl hl.1 rfl (lv_room (Nat.le_of_ble_eq_true rfl)) dX11_readAtom_174 ⟨Nat.le_of_ble_eq_true rfl, Nat.le_of_ble_eq_true rfl⟩) (fun u H locs hw hP hD hS => ?_)
                obtain ⟨x127, g128⟩ := u
                have hP : va_P D vwCl [(aP, .inl (cB, 400, .inl ft)), (h, oX11 th aw ai ab ac hi re aP ta x110 en x111 6 fa a5 x127 av an ak ne aW aC ag aT aN aF), (aw, .inl (cI, 2179, .inl g128))] H := hP
                have hD : va_D A [(aP, .inl (cB, 400, .inl ft)), (h, oX11 th aw ai ab ac hi re aP ta x110 en x111 6 fa a5 x127 av an ak ne aW aC ag aT aN aF), (aw, .inl (cI, 2179, .inl g128))] := hD
                obtain ⟨k129, k130, k131, k132, k133⟩ := hw
                refine lv_iconst (v := 1) hx hb dX11_readAtom_177 (by decide) ?_
                have hP9 := hP.sub (ws' := [(h, oX11 th aw ai ab ac hi re aP ta x110 en x111 6 fa a5 x127 av an ak ne aW aC ag aT aN aF), (aw, .inl (cI, 2179, .inl g128)), (aP, .inl (cB, 400, .inl ft))]) [1, 2, 0] rfl
                have hD9 := hD.sub (ws' := [(h, oX11 th aw ai ab ac hi re aP ta x110 en x111 6 fa a5 x127 av an ak ne aW aC ag aT aN aF), (aw, .inl (cI, 2179, .inl g128)), (aP, .inl (cB, 400, .inl ft))]) [1, 2, 0] (by decide) rfl
                exact W.zret (v := 1) hx hb hr (by decide) (fun t ht hW => ⟨⟨1, (x110, x111, x127, g128), rfl, ⟨k114, k115, (rg_w k129 (by decide)), k130, k131, k132, (Or.inr ⟨rfl, (rOk_bin (rOk_le (rOk_tr kc31_0 kc46_0 (Int.le_refl _)) (by have q0 := H_SP; have q1 := kc6_0; have q3 := kc17_0; have q4 := k19; obtain ⟨-, -, u5, v5, w5⟩ := kc31_0; have q6 := k33; obtain ⟨-, -, u7, v7, w7⟩ := kc46_0; have q8 := kc54_0; have q9 := kc104_1; have q10 := k107; obtain ⟨-, -, u11, v11, w11⟩ := kc120_0; have q12 := k125; obtain ⟨-, -, u13, -⟩ := k133; have q15 : (0 : Int32).toInt = 0 := (by decide); have q16 : (1 : Int32).toInt = 1 := (by decide); unfold Rg at *; omega) (Int.le_refl _)) (by have q0 := H_SP; have q1 := kc6_0; have q3 := kc17_0; have q4 := k19; obtain ⟨-, -, u5, v5, w5⟩ := kc31_0; have q6 := k33; obtain ⟨-, -, u7, v7, w7⟩ := kc46_0; have q8 := kc54_0; have q9 := kc104_1; have q10 := k107; obtain ⟨-, -, u11, v11, w11⟩ := kc120_0; have q12 := k125; obtain ⟨-, -, u13, -⟩ := k133; have q15 : (0 : Int32).toInt = 0 := (by decide); have q16 : (1 : Int32).toInt = 1 := (by decide); unfold Rg at *; omega) kc120_0 k133 (by decide) (by decide)), (by decide)⟩)⟩, by rw [ht]; exact hP9, va_K.moved hW.alike hK, hD9⟩, hS.F ht⟩) hS.2.2 dX11_readAtom_178
          · skip
            refine lv_istore_n (lv' := [(1, .int 1), (0, .ref h)]) hx hb dX11_readAtom_138 rfl hl (by decide) rfl (fun ls hl => ?_)
            refine lv_iload_n hx hb dX11_readAtom_139 rfl (lv_at hl 0 rfl) ?_
            refine lv_if_ne (tgt := 152) hx hb dX11_readAtom_140 (by decide) (fun _ => ?_) (fun c161 => absurd c161 (by decide))
            refine lv_aload_n hx hb dX11_readAtom_152 rfl (lv_at hl 1 rfl) ?_
            have k162 : (x38 : Int32).toInt + 5 ≤ (x50 : Int32).toInt := (by have q0 := H_SP; have q1 := kc6_0; have q3 := kc17_0; have q4 := k19; obtain ⟨-, -, u5, v5, w5⟩ := kc31_0; have q6 := k33; obtain ⟨-, -, u7, v7, w7⟩ := kc46_0; have q8 := kc54_1; have q9 := k42; have q10 := k52; have q11 : (0 : Int32).toInt = 0 := (by decide); have q12 : (1 : Int32).toInt = 1 := (by decide); unfold Rg at *; omega)
            have k163 : Rg x38 0 395 := (by have q1 := k162; have q2 := k42; have q3 := k52; unfold Rg at *; exact ⟨by omega, by omega⟩)
            refine kcalli (wc := [(h, oX11 th aw ai ab ac hi re aP ta x50 en x51 6 fa a5 x38 av an ak ne aW aC ag aT aN aF), (aw, .inl (cI, 2179, .inl g39)), (aP, .inl (cB, 400, .inl ft))]) (wr := []) hP hD hS hA [1, 0, 2] [] rfl rfl (by decide) (by decide) (by decide) (fun hPc hDc hFc => va_runV (As := []) (rest := []) ⟨hx, hb, hml, hown, hts⟩ (r_readSum l D cI cJ cB cC h th aw ai ab ac hi re aP ta x50 en x51 6 fa a5 x38 av an ak ne aW aC ag aT aN aF g39 ft H.size k52 (rg_w kc54_0 (by decide)) k163 k45 k43 k44 k162) (cwV 0 hts gX11_readAtom_X11_readSum rfl rfl rfl ⟨rfl, hdX11_readSum⟩ ⟨Nat.le_of_ble_eq_true rfl, Nat.le_of_ble_eq_true rfl⟩) ⟨kBlind, va_recv hK hPc (ci := 10) (q0 := 0) rfl rfl, fun U hU hW => ⟨rfl, by rw [hU], hN.warm hW, hE.pass hS hFc hW hU, by rw [hU]; exact hPc, va_K.moved hW.alike hK, hDc⟩⟩ rfl rfl hl.1 rfl (lv_room (Nat.le_of_ble_eq_true rfl)) dX11_readAtom_153 ⟨Nat.le_of_ble_eq_true rfl, Nat.le_of_ble_eq_true rfl⟩) (fun r164 u H locs hw hP hD hS => ?_)
            obtain ⟨x165, x166, x167, g168⟩ := u
            have hP : va_P D vwCl [(h, oX11 th aw ai ab ac hi re aP ta x165 en x166 6 fa a5 x167 av an ak ne aW aC ag aT aN aF), (aw, .inl (cI, 2179, .inl g168)), (aP, .inl (cB, 400, .inl ft))] H := hP
            have hD : va_D A [(h, oX11 th aw ai ab ac hi re aP ta x165 en x166 6 fa a5 x167 av an ak ne aW aC ag aT aN aF), (aw, .inl (cI, 2179, .inl g168)), (aP, .inl (cB, 400, .inl ft))] := hD
            obtain ⟨k169, k170, k171, k172, k173, k174, hw⟩ := hw
            rcases hw with rfl | ⟨rfl, kc175_0⟩
            · skip
              refine lv_if_ne (tgt := 161) hx hb dX11_readAtom_156 (by decide) (fun c176 => absurd (by decide) c176) (fun _ => ?_)
              refine lv_iconst (v := 0) hx hb dX11_readAtom_159 (by decide) ?_
              have hP9 := hP.sub (ws' := [(h, oX11 th aw ai ab ac hi re aP ta x165 en x166 6 fa a5 x167 av an ak ne aW aC ag aT aN aF), (aw, .inl (cI, 2179, .inl g168)), (aP, .inl (cB, 400, .inl ft))]) [0, 1, 2] rfl
              have hD9 := hD.sub (ws' := [(h, oX11 th aw ai ab ac hi re aP ta x165 en x166 6 fa a5 x167 av an ak ne aW aC ag aT aN aF), (aw, .inl (cI, 2179, .inl g168)), (aP, .inl (cB, 400, .inl ft))]) [0, 1, 2] (by decide) rfl
              exact W.zret (v := 0) hx hb hr (by decide) (fun t ht hW => ⟨⟨0, (x165, x166, x167, g168), rfl, ⟨k169, k170, k171, k172, k173, k174, (Or.inl rfl)⟩, by rw [ht]; exact hP9, va_K.moved hW.alike hK, hD9⟩, hS.F ht⟩) hS.2.2 dX11_readAtom_160
            · skip
              refine lv_if_ne (tgt := 161) hx hb dX11_readAtom_156 (by decide) (fun _ => ?_) (fun c177 => absurd c177 (by decide))
              refine lv_aload_n hx hb dX11_readAtom_161 rfl (lv_at hl 1 rfl) ?_
              refine lv_iload_n hx hb dX11_readAtom_162 rfl (lv_at hl 0 rfl) ?_
              refine lv_if_eq (tgt := 171) hx hb dX11_readAtom_163 (by decide) (fun c179 => absurd c179 (by decide)) (fun _ => ?_)
              refine lv_bipush (v := 14) hx hb dX11_readAtom_166 (by decide) ?_
              refine lv_goto (tgt := 173) hx hb dX11_readAtom_168 (by decide) ?_
              refine lv_iconst (v := 0) hx hb dX11_readAtom_173 (by decide) ?_
              have k180 : (x167 : Int32).toInt + 5 ≤ (x165 : Int32).toInt := (by have q0 := H_SP; have q1 := kc6_0; have q3 := kc17_0; have q4 := k19; obtain ⟨-, -, u5, v5, w5⟩ := kc31_0; have q6 := k33; obtain ⟨-, -, u7, v7, w7⟩ := kc46_0; have q8 := kc54_1; have q9 := k162; obtain ⟨-, -, u10, v10, w10⟩ := kc175_0; have q11 := k171; have q12 := k169; have q13 : (0 : Int32).toInt = 0 := (by decide); have q14 : (1 : Int32).toInt = 1 := (by decide); unfold Rg at *; omega)
              have k181 : Rg x167 0 395 := (by have q1 := k180; have q2 := k171; have q3 := k169; unfold Rg at *; exact ⟨by omega, by omega⟩)
              refine kcallv (wc := [(h, oX11 th aw ai ab ac hi re aP ta x165 en x166 6 fa a5 x167 av an ak ne aW aC ag aT aN aF), (aw, .inl (cI, 2179, .inl g168))]) (wr := [(aP, .inl (cB, 400, .inl ft))]) hP hD hS hA [0, 1] [2] rfl rfl (by decide) (by decide) (by decide) (fun hPc hDc hFc => va_runV (As := [.int 14, .int 0]) (rest := []) ⟨hx, hb, hml, hown, hts⟩ (r_emits l D cI cJ cB cC h th aw ai ab ac hi re aP ta x165 en x166 6 fa a5 x167 av an ak ne aW aC ag aT aN aF g168 14 0 H.size (rg_w k181 (by decide)) k174 k172 k173) (cwV 2 hts gX11_readAtom_X11_emits rfl rfl rfl ⟨rfl, hdX11_emits⟩ ⟨Nat.le_of_ble_eq_true rfl, Nat.le_of_ble_eq_true rfl⟩) ⟨kBlind, va_recv hK hPc (ci := 10) (q0 := 0) rfl rfl, fun U hU hW => ⟨rfl, by rw [hU], hN.warm hW, hE.pass hS hFc hW hU, by rw [hU]; exact hPc, va_K.moved hW.alike hK, hDc⟩⟩ rfl rfl hl.1 rfl (lv_room (Nat.le_of_ble_eq_true rfl)) dX11_readAtom_174 ⟨Nat.le_of_ble_eq_true rfl, Nat.le_of_ble_eq_true rfl⟩) (fun u H locs hw hP hD hS => ?_)
              obtain ⟨x182, g183⟩ := u
              have hP : va_P D vwCl [(aP, .inl (cB, 400, .inl ft)), (h, oX11 th aw ai ab ac hi re aP ta x165 en x166 6 fa a5 x182 av an ak ne aW aC ag aT aN aF), (aw, .inl (cI, 2179, .inl g183))] H := hP
              have hD : va_D A [(aP, .inl (cB, 400, .inl ft)), (h, oX11 th aw ai ab ac hi re aP ta x165 en x166 6 fa a5 x182 av an ak ne aW aC ag aT aN aF), (aw, .inl (cI, 2179, .inl g183))] := hD
              obtain ⟨k184, k185, k186, k187, k188⟩ := hw
              refine lv_iconst (v := 1) hx hb dX11_readAtom_177 (by decide) ?_
              have hP9 := hP.sub (ws' := [(h, oX11 th aw ai ab ac hi re aP ta x165 en x166 6 fa a5 x182 av an ak ne aW aC ag aT aN aF), (aw, .inl (cI, 2179, .inl g183)), (aP, .inl (cB, 400, .inl ft))]) [1, 2, 0] rfl
              have hD9 := hD.sub (ws' := [(h, oX11 th aw ai ab ac hi re aP ta x165 en x166 6 fa a5 x182 av an ak ne aW aC ag aT aN aF), (aw, .inl (cI, 2179, .inl g183)), (aP, .inl (cB, 400, .inl ft))]) [1, 2, 0] (by decide) rfl
              exact W.zret (v := 1) hx hb hr (by decide) (fun t ht hW => ⟨⟨1, (x165, x166, x182, g183), rfl, ⟨k169, k170, (rg_w k184 (by decide)), k185, k186, k187, (Or.inr ⟨rfl, (rOk_bin (rOk_le (rOk_tr kc31_0 kc46_0 (Int.le_refl _)) (by have q0 := H_SP; have q1 := kc6_0; have q3 := kc17_0; have q4 := k19; obtain ⟨-, -, u5, v5, w5⟩ := kc31_0; have q6 := k33; obtain ⟨-, -, u7, v7, w7⟩ := kc46_0; have q8 := kc54_1; have q9 := k162; obtain ⟨-, -, u10, v10, w10⟩ := kc175_0; have q11 := k180; obtain ⟨-, -, u12, -⟩ := k188; have q14 : (0 : Int32).toInt = 0 := (by decide); have q15 : (1 : Int32).toInt = 1 := (by decide); unfold Rg at *; omega) (Int.le_refl _)) (by have q0 := H_SP; have q1 := kc6_0; have q3 := kc17_0; have q4 := k19; obtain ⟨-, -, u5, v5, w5⟩ := kc31_0; have q6 := k33; obtain ⟨-, -, u7, v7, w7⟩ := kc46_0; have q8 := kc54_1; have q9 := k162; obtain ⟨-, -, u10, v10, w10⟩ := kc175_0; have q11 := k180; obtain ⟨-, -, u12, -⟩ := k188; have q14 : (0 : Int32).toInt = 0 := (by decide); have q15 : (1 : Int32).toInt = 1 := (by decide); unfold Rg at *; omega) kc175_0 k188 (by decide) (by decide)), (by decide)⟩)⟩, by rw [ht]; exact hP9, va_K.moved hW.alike hK, hD9⟩, hS.F ht⟩) hS.2.2 dX11_readAtom_178
      · skip
        refine lv_if_eq (tgt := 123) hx hb dX11_readAtom_118 (by decide) (fun c189 => absurd c189 (by decide)) (fun _ => ?_)
        refine lv_iconst (v := 1) hx hb dX11_readAtom_121 (by decide) ?_
        have hP9 := hP.sub (ws' := [(h, oX11 th aw ai ab ac hi re aP ta x21 en x22 6 fa a5 x23 av an ak ne aW aC ag aT aN aF), (aw, .inl (cI, 2179, .inl g24)), (aP, .inl (cB, 400, .inl ft))]) [0, 1, 2] rfl
        have hD9 := hD.sub (ws' := [(h, oX11 th aw ai ab ac hi re aP ta x21 en x22 6 fa a5 x23 av an ak ne aW aC ag aT aN aF), (aw, .inl (cI, 2179, .inl g24)), (aP, .inl (cB, 400, .inl ft))]) [0, 1, 2] (by decide) rfl
        exact W.zret (v := 1) hx hb hr (by decide) (fun t ht hW => ⟨⟨1, (x21, x22, x23, g24), rfl, ⟨k25, k26, k27, k28, k29, k30, (Or.inr ⟨rfl, (rOk_le kc31_0 (by have q0 := H_SP; have q1 := kc6_0; have q3 := kc17_0; have q4 := k19; obtain ⟨-, -, u5, v5, w5⟩ := kc31_0; have q6 : (0 : Int32).toInt = 0 := (by decide); have q7 : (1 : Int32).toInt = 1 := (by decide); unfold Rg at *; omega) (by have q0 := H_SP; have q1 := kc6_0; have q3 := kc17_0; have q4 := k19; obtain ⟨-, -, u5, v5, w5⟩ := kc31_0; have q6 : (0 : Int32).toInt = 0 := (by decide); have q7 : (1 : Int32).toInt = 1 := (by decide); unfold Rg at *; omega)), (by decide)⟩)⟩, by rw [ht]; exact hP9, va_K.moved hW.alike hK, hD9⟩, hS.F ht⟩) hS.2.2 dX11_readAtom_122
    · skip
      refine lv_if_eq (tgt := 114) hx hb dX11_readAtom_62 (by decide) (fun c190 => absurd c190 (by decide)) (fun _ => ?_)
      refine lv_aload_n hx hb dX11_readAtom_65 rfl (lv_at hl 0 rfl) ?_
      refine va_get (D := D) (ci := 10) (v := .int 6) (C := RX11) (T := TX11) (N := 26) hx hb hts iG_X11 hown hK hP 1 rfl rfl 12 (by decide) (hts _ w21_17) (fun _ h9 => h9) rfl dX11_readAtom_66 ?_
      refine lv_bipush (v := 6) hx hb dX11_readAtom_69 (by decide) ?_
      refine lv_icmp_ne (tgt := 76) hx hb dX11_readAtom_71 (by decide) (fun c191 => absurd (by decide) c191) (fun _ => ?_)
      refine lv_iconst (v := 0) hx hb dX11_readAtom_74 (by decide) ?_
      have hP9 := hP.sub (ws' := [(h, oX11 th aw ai ab ac hi re aP ta x13 en x14 6 fa a5 sp av an ak ne aW aC ag aT aN aF), (aw, .inl (cI, 2179, .inl fw)), (aP, .inl (cB, 400, .inl ft))]) [1, 0, 2] rfl
      have hD9 := hD.sub (ws' := [(h, oX11 th aw ai ab ac hi re aP ta x13 en x14 6 fa a5 sp av an ak ne aW aC ag aT aN aF), (aw, .inl (cI, 2179, .inl fw)), (aP, .inl (cB, 400, .inl ft))]) [1, 0, 2] (by decide) rfl
      exact W.zret (v := 0) hx hb hr (by decide) (fun t ht hW => ⟨⟨0, (x13, x14, sp, fw), rfl, ⟨k15, k16, (rg_w H_sp (by decide)), H_fw_B, H_fw_L, H_fw_W, (Or.inl rfl)⟩, by rw [ht]; exact hP9, va_K.moved hW.alike hK, hD9⟩, hS.F ht⟩) hS.2.2 dX11_readAtom_75
  · skip
    refine lv_if_eq (tgt := 56) hx hb dX11_readAtom_6 (by decide) (fun c192 => absurd c192 (by decide)) (fun _ => ?_)
    refine lv_aload_n hx hb dX11_readAtom_9 rfl (lv_at hl 0 rfl) ?_
    refine va_get (D := D) (ci := 10) (v := .int 6) (C := RX11) (T := TX11) (N := 26) hx hb hts iG_X11 hown hK hP 1 rfl rfl 12 (by decide) (hts _ w21_17) (fun _ h9 => h9) rfl dX11_readAtom_10 ?_
    refine lv_bipush (v := 6) hx hb dX11_readAtom_13 (by decide) ?_
    refine lv_icmp_ne (tgt := 20) hx hb dX11_readAtom_15 (by decide) (fun c193 => absurd (by decide) c193) (fun _ => ?_)
    refine lv_iconst (v := 0) hx hb dX11_readAtom_18 (by decide) ?_
    have hP9 := hP.sub (ws' := [(h, oX11 th aw ai ab ac hi re aP ta x2 en x3 6 fa a5 sp av an ak ne aW aC ag aT aN aF), (aw, .inl (cI, 2179, .inl fw)), (aP, .inl (cB, 400, .inl ft))]) [1, 0, 2] rfl
    have hD9 := hD.sub (ws' := [(h, oX11 th aw ai ab ac hi re aP ta x2 en x3 6 fa a5 sp av an ak ne aW aC ag aT aN aF), (aw, .inl (cI, 2179, .inl fw)), (aP, .inl (cB, 400, .inl ft))]) [1, 0, 2] (by decide) rfl
    exact W.zret (v := 0) hx hb hr (by decide) (fun t ht hW => ⟨⟨0, (x2, x3, sp, fw), rfl, ⟨k4, k5, (rg_w H_sp (by decide)), H_fw_B, H_fw_L, H_fw_W, (Or.inl rfl)⟩, by rw [ht]; exact hP9, va_K.moved hW.alike hK, hD9⟩, hS.F ht⟩) hS.2.2 dX11_readAtom_19

