def kwX11_emits : List Cond := .code yX11_emits cX11_emits 3 none :: kG
theorem hdX11_emits : yX11_emits.cls ≠ "java/lang/invoke/MethodHandle" ∧ yX11_emits.cls ≠ "java/lang/invoke/VarHandle" ∧ (parseMethodDescriptor yX11_emits.desc).map (fun d => d.parameters.length) = some 2 := by decide +kernel
theorem dX11_emits_0 : decode cX11_emits 0 = .ok (.aload_n 0, 1) := by decide +kernel
theorem dX11_emits_1 : decode cX11_emits 1 = .ok (.getfield 13, 3) := by decide +kernel
theorem dX11_emits_4 : decode cX11_emits 4 = .ok (.sipush 1379, 3) := by decide +kernel
theorem dX11_emits_7 : decode cX11_emits 7 = .ok (.iconst 2, 1) := by decide +kernel
theorem dX11_emits_8 : decode cX11_emits 8 = .ok (.aload_n 0, 1) := by decide +kernel
theorem dX11_emits_9 : decode cX11_emits 9 = .ok (.getfield 181, 3) := by decide +kernel
theorem dX11_emits_12 : decode cX11_emits 12 = .ok (.imul, 1) := by decide +kernel
theorem dX11_emits_13 : decode cX11_emits 13 = .ok (.iadd, 1) := by decide +kernel
theorem dX11_emits_14 : decode cX11_emits 14 = .ok (.iload_n 1, 1) := by decide +kernel
theorem dX11_emits_15 : decode cX11_emits 15 = .ok (.iastore, 1) := by decide +kernel
theorem dX11_emits_16 : decode cX11_emits 16 = .ok (.aload_n 0, 1) := by decide +kernel
theorem dX11_emits_17 : decode cX11_emits 17 = .ok (.getfield 13, 3) := by decide +kernel
theorem dX11_emits_20 : decode cX11_emits 20 = .ok (.sipush 1379, 3) := by decide +kernel
theorem dX11_emits_23 : decode cX11_emits 23 = .ok (.iconst 2, 1) := by decide +kernel
theorem dX11_emits_24 : decode cX11_emits 24 = .ok (.aload_n 0, 1) := by decide +kernel
theorem dX11_emits_25 : decode cX11_emits 25 = .ok (.getfield 181, 3) := by decide +kernel
theorem dX11_emits_28 : decode cX11_emits 28 = .ok (.imul, 1) := by decide +kernel
theorem dX11_emits_29 : decode cX11_emits 29 = .ok (.iadd, 1) := by decide +kernel
theorem dX11_emits_30 : decode cX11_emits 30 = .ok (.iconst 1, 1) := by decide +kernel
theorem dX11_emits_31 : decode cX11_emits 31 = .ok (.iadd, 1) := by decide +kernel
theorem dX11_emits_32 : decode cX11_emits 32 = .ok (.iload_n 2, 1) := by decide +kernel
theorem dX11_emits_33 : decode cX11_emits 33 = .ok (.iastore, 1) := by decide +kernel
theorem dX11_emits_34 : decode cX11_emits 34 = .ok (.aload_n 0, 1) := by decide +kernel
theorem dX11_emits_35 : decode cX11_emits 35 = .ok (.dup, 1) := by decide +kernel
theorem dX11_emits_36 : decode cX11_emits 36 = .ok (.getfield 181, 3) := by decide +kernel
theorem dX11_emits_39 : decode cX11_emits 39 = .ok (.iconst 1, 1) := by decide +kernel
theorem dX11_emits_40 : decode cX11_emits 40 = .ok (.iadd, 1) := by decide +kernel
theorem dX11_emits_41 : decode cX11_emits 41 = .ok (.putfield 181, 3) := by decide +kernel
theorem dX11_emits_44 : decode cX11_emits 44 = .ok (.return_, 1) := by decide +kernel
set_option maxHeartbeats 4000000 in
set_option maxRecDepth 100000 in
/-- reference: emits -/
theorem r_emits (l : Launch) (D : va_G) (cI cJ cB cC : ClassId) (h : Nat) (th : Int32) (aw : Nat) (ai : Nat) (ab : Nat) (ac : Nat) (hi : Int32) (re : Int32) (aP : Nat) (ta : Int32) (po : Int32) (en : Int32) (be : Int32) (de : Int32) (fa : Int32) (a5 : Nat) (sp : Int32) (av : Nat) (an : Nat) (ak : Nat) (ne : Int32) (aW : Nat) (aC : Nat) (ag : Nat) (aT : Nat) (aN : Nat) (aF : Nat) (fw : Nat → Int32) (st : Int32) (n : Int32) (sz : Nat) (H_sp : Rg sp 0 399) (H_fw_W : wW fw) (H_fw_B : wB fw) (H_fw_L : wL fw) : Met l yX11_emits kwX11_emits ({ frames := 0, cells := 0, slots := 0, locals := 0 } : Room) (kPre D (kT cI cJ cB cC) sz [(h, oX11 th aw ai ab ac hi re aP ta po en be de fa a5 sp av an ak ne aW aC ag aT aN aF), (aw, kcI cI 2179 fw)] [.ref h, .int st, .int n]) (va_Qv (fun (uu : Int32 × (Nat → Int32)) => match uu with | (n0_, f1_) => Rg n0_ 1 400 ∧ wB f1_ ∧ wL f1_ ∧ wW f1_ ∧ (rEm fw f1_ sp n0_ st) ∧ F_r_emits (sp : Int32).toInt (gT fw) (st : Int32).toInt (n : Int32).toInt = ((n0_ : Int32).toInt, (gT f1_))) (fun (uu : Int32 × (Nat → Int32)) (t : State) => match uu with | (n0_, f1_) => kB D (kT cI cJ cB cC) (va_A [(h, oX11 th aw ai ab ac hi re aP ta po en be de fa a5 sp av an ak ne aW aC ag aT aN aF), (aw, kcI cI 2179 fw)] sz) [(h, oX11 th aw ai ab ac hi re aP ta po en be de fa a5 n0_ av an ak ne aW aC ag aT aN aF), (aw, kcI cI 2179 f1_)] t) (va_A [(h, oX11 th aw ai ab ac hi re aP ta po en be de fa a5 sp av an ak ne aW aC ag aT aN aF), (aw, kcI cI 2179 fw)] sz)) 0 0 (va_A [(h, oX11 th aw ai ab ac hi re aP ta po en be de fa a5 sp av an ak ne aW aC ag aT aN aF), (aw, kcI cI 2179 fw)] sz) := by
  refine Met.ofW (cc := cX11_emits) (maxL := 3) (ret := none) (by decide) rfl ?_
  intro p e s m args below meth c s₁ B hml hv
  obtain ⟨rfl, hsz, hN, hE, hP, hK, hD0⟩ := hv
  have hx := B.exec
  have hb := B.bytes
  have hr := B.returns
  have hts := fun (w : Cond) (h : w ∈ kG) => atoms_spec (ws := kwX11_emits) B.pre w (List.mem_cons_of_mem _ h)
  have hown : s.vm.findClass RX11 = some m.cls := findClass_of_methodNamed B.named
  subst hsz
  have hD := hD0.self (sz := s.heap.size)
  generalize hAe : va_A [(h, oX11 th aw ai ab ac hi re aP ta po en be de fa a5 sp av an ak ne aW aC ag aT aN aF), (aw, kcI cI 2179 fw)] s.heap.size = A at hD hE ⊢
  have hA : ∀ q : Nat, s.heap.size ≤ q → A q := fun q h => by rw [← hAe]; exact Or.inr h
  have hl := lv_entry ([.ref h, .int st, .int n]) (n := 3) (Nat.le_of_ble_eq_true rfl)
  rw [lg_entry_eq]
  generalize (lg_sl ([.ref h, .int st, .int n]) ++ List.replicate (3 - (lg_sl ([.ref h, .int st, .int n])).length) Slot.unset).toArray = ls at hl ⊢
  have hl : lv_has ls 3 [(0, .ref h), (1, .int st), (2, .int n)] := hl
  obtain ⟨H, hH0⟩ : ∃ H, H = s.heap := ⟨_, rfl⟩
  have hS : va_S A s.heap H [] := by rw [hH0]; exact va_S.rf
  have hP : va_P D vwCl [(h, oX11 th aw ai ab ac hi re aP ta po en be de fa a5 sp av an ak ne aW aC ag aT aN aF), (aw, kcI cI 2179 fw)] H := by rw [hH0]; exact hP
  refine kHeap hH0 ?_
  clear hH0
  refine lv_aload_n hx hb dX11_emits_0 rfl (lv_at hl 0 rfl) ?_
  refine va_get (D := D) (ci := 10) (v := .ref aw) (C := RX11) (T := TX11) (N := 26) hx hb hts iG_X11 hown hK hP 0 rfl rfl 1 (by decide) (hts _ w5_3) (fun _ h9 => h9) rfl dX11_emits_1 ?_
  refine lv_sipush (v := 1379) hx hb dX11_emits_4 (by decide) ?_
  refine lv_iconst (v := 2) hx hb dX11_emits_7 (by decide) ?_
  refine lv_aload_n hx hb dX11_emits_8 rfl (lv_at hl 0 rfl) ?_
  refine va_get (D := D) (ci := 10) (v := .int sp) (C := RX11) (T := TX11) (N := 26) hx hb hts iG_X11 hown hK hP 0 rfl rfl 15 (by decide) (hts _ w18_4) (fun _ h9 => h9) rfl dX11_emits_9 ?_
  refine lv_imul hx hb dX11_emits_12 ?_
  refine lv_topi (fun x1 ex1 => ?_)
  have tx1 : x1.toInt = 2 * sp.toInt := ti_mul ex1 (rg_lit (n := 2) (by decide)) H_sp (by decide) (by decide) rfl
  have k2 : Rg x1 0 798 := rg_mul ex1 (rg_lit (n := 2) (by decide)) H_sp (by decide)
  refine lv_iadd hx hb dX11_emits_13 ?_
  refine lv_topi (fun x3 ex3 => ?_)
  have tx3 : x3.toInt = 1379 + x1.toInt := ti_add ex3 (rg_lit (n := 1379) (by decide)) k2 (by decide) (by decide) rfl
  have k4 : Rg x3 1379 2177 := rg_add ex3 (rg_lit (n := 1379) (by decide)) k2 (by decide)
  refine lv_iload_n hx hb dX11_emits_14 rfl (lv_at hl 1 rfl) ?_
  refine va_iast hx hb hK hP hD hS 1 0 rfl rfl (rg_in k4 (by decide)) dX11_emits_15 (fun H locs hP hD hS => ?_)
  have hP : va_P D vwCl [(h, oX11 th aw ai ab ac hi re aP ta po en be de fa a5 sp av an ak ne aW aC ag aT aN aF), (aw, kcI cI 2179 (upd fw x3.toNatClampNeg st))] H := hP
  have hD : va_D A [(h, oX11 th aw ai ab ac hi re aP ta po en be de fa a5 sp av an ak ne aW aC ag aT aN aF), (aw, kcI cI 2179 (upd fw x3.toNatClampNeg st))] := hD
  have k6 : wW (upd fw x3.toNatClampNeg st) := wW_hi H_fw_W k4 (by decide)
  have k7 : wB (upd fw x3.toNatClampNeg st) := wB_hi H_fw_B H_fw_W k4 (by decide)
  have k8 : wL (upd fw x3.toNatClampNeg st) := wL_out H_fw_L k4 (by decide)
  generalize hg5 : (upd fw x3.toNatClampNeg st) = g5 at hP hD k6 k7 k8
  refine lv_aload_n hx hb dX11_emits_16 rfl (lv_at hl 0 rfl) ?_
  refine va_get (D := D) (ci := 10) (v := .ref aw) (C := RX11) (T := TX11) (N := 26) hx hb hts iG_X11 hown hK hP 0 rfl rfl 1 (by decide) (hts _ w5_3) (fun _ h9 => h9) rfl dX11_emits_17 ?_
  refine lv_sipush (v := 1379) hx hb dX11_emits_20 (by decide) ?_
  refine lv_iconst (v := 2) hx hb dX11_emits_23 (by decide) ?_
  refine lv_aload_n hx hb dX11_emits_24 rfl (lv_at hl 0 rfl) ?_
  refine va_get (D := D) (ci := 10) (v := .int sp) (C := RX11) (T := TX11) (N := 26) hx hb hts iG_X11 hown hK hP 0 rfl rfl 15 (by decide) (hts _ w18_4) (fun _ h9 => h9) rfl dX11_emits_25 ?_
  refine lv_imul hx hb dX11_emits_28 ?_
  refine lv_topi (fun x9 ex9 => ?_)
  have tx9 : x9.toInt = 2 * sp.toInt := ti_mul ex9 (rg_lit (n := 2) (by decide)) H_sp (by decide) (by decide) rfl
  have k10 : Rg x9 0 798 := rg_mul ex9 (rg_lit (n := 2) (by decide)) H_sp (by decide)
  refine lv_iadd hx hb dX11_emits_29 ?_
  refine lv_topi (fun x11 ex11 => ?_)
  have tx11 : x11.toInt = 1379 + x9.toInt := ti_add ex11 (rg_lit (n := 1379) (by decide)) k10 (by decide) (by decide) rfl
  have k12 : Rg x11 1379 2177 := rg_add ex11 (rg_lit (n := 1379) (by decide)) k10 (by decide)
  refine lv_iconst (v := 1) hx hb dX11_emits_30 (by decide) ?_
  refine lv_iadd hx hb dX11_emits_31 ?_
  refine lv_topi (fun x13 ex13 => ?_)
  have tx13 : x13.toInt = x11.toInt + 1 := ti_add ex13 k12 (rg_lit (n := 1) (by decide)) (by decide) rfl (by decide)
  have k14 : Rg x13 1380 2178 := rg_add ex13 k12 (rg_lit (n := 1) (by decide)) (by decide)
  refine lv_iload_n hx hb dX11_emits_32 rfl (lv_at hl 2 rfl) ?_
  refine va_iast hx hb hK hP hD hS 1 0 rfl rfl (rg_in k14 (by decide)) dX11_emits_33 (fun H locs hP hD hS => ?_)
  have hP : va_P D vwCl [(h, oX11 th aw ai ab ac hi re aP ta po en be de fa a5 sp av an ak ne aW aC ag aT aN aF), (aw, kcI cI 2179 (upd g5 x13.toNatClampNeg n))] H := hP
  have hD : va_D A [(h, oX11 th aw ai ab ac hi re aP ta po en be de fa a5 sp av an ak ne aW aC ag aT aN aF), (aw, kcI cI 2179 (upd g5 x13.toNatClampNeg n))] := hD
  have k16 : wW (upd g5 x13.toNatClampNeg n) := wW_hi k6 k14 (by decide)
  have k17 : wB (upd g5 x13.toNatClampNeg n) := wB_hi k7 k6 k14 (by decide)
  have k18 : wL (upd g5 x13.toNatClampNeg n) := wL_out k8 k14 (by decide)
  generalize hg15 : (upd g5 x13.toNatClampNeg n) = g15 at hP hD k16 k17 k18
  refine lv_aload_n hx hb dX11_emits_34 rfl (lv_at hl 0 rfl) ?_
  refine lv_dup hx hb dX11_emits_35 rfl ?_
  refine va_get (D := D) (ci := 10) (v := .int sp) (C := RX11) (T := TX11) (N := 26) hx hb hts iG_X11 hown hK hP 0 rfl rfl 15 (by decide) (hts _ w18_4) (fun _ h9 => h9) rfl dX11_emits_36 ?_
  refine lv_iconst (v := 1) hx hb dX11_emits_39 (by decide) ?_
  refine lv_iadd hx hb dX11_emits_40 ?_
  refine lv_topi (fun x19 ex19 => ?_)
  have tx19 : x19.toInt = sp.toInt + 1 := ti_add ex19 H_sp (rg_lit (n := 1) (by decide)) (by decide) rfl (by decide)
  have k20 : Rg x19 1 400 := rg_add ex19 H_sp (rg_lit (n := 1) (by decide)) (by decide)
  refine va_put (D := D) (ci := 10) (v := .int x19) (ty := .int) (C := RX11) (T := TX11) (N := 26) hx hb hts iG_X11 tyX11 tyX11_ok nmX11 hown hK hP hD hS 0 rfl rfl 15 (by decide) (hts _ w18_4) (fun _ h9 => h9) rfl (by decide +kernel) rfl rfl (Nat.le_of_ble_eq_true rfl) dX11_emits_41 (fun H locs hP hD hS => ?_)
  have hP : va_P D vwCl [(h, oX11 th aw ai ab ac hi re aP ta po en be de fa a5 x19 av an ak ne aW aC ag aT aN aF), (aw, kcI cI 2179 g15)] H := hP
  have hD : va_D A [(h, oX11 th aw ai ab ac hi re aP ta po en be de fa a5 x19 av an ak ne aW aC ag aT aN aF), (aw, kcI cI 2179 g15)] := hD
  have hP9 := hP.sub (ws' := [(h, oX11 th aw ai ab ac hi re aP ta po en be de fa a5 x19 av an ak ne aW aC ag aT aN aF), (aw, kcI cI 2179 g15)]) [0, 1] rfl
  have hD9 := hD.sub (ws' := [(h, oX11 th aw ai ab ac hi re aP ta po en be de fa a5 x19 av an ak ne aW aC ag aT aN aF), (aw, kcI cI 2179 g15)]) [0, 1] (by decide) rfl
  exact W.vret hx hb hr (fun t ht hW => ⟨⟨(x19, g15), rfl, ⟨k20, k17, k18, k16, (rEm_of hg5 hg15 (cl_of (k := 1379 + 2 * cN sp) k4 (by decide) (by simp only [cN]; have q0 := tx1; have q1 := tx3; have q3 := tx9; have q4 := tx11; have q5 := tx13; have q7 := tx19; have q8 := H_sp; have q9 : (0 : Int32).toInt = 0 := (by decide); have q10 : (1 : Int32).toInt = 1 := (by decide); unfold Rg at *; omega)) (cl_of (k := 1380 + 2 * cN sp) k14 (by decide) (by simp only [cN]; have q0 := tx1; have q1 := tx3; have q3 := tx9; have q4 := tx11; have q5 := tx13; have q7 := tx19; have q8 := H_sp; have q9 : (0 : Int32).toInt = 0 := (by decide); have q10 : (1 : Int32).toInt = 1 := (by decide); unfold Rg at *; omega)) (by have q0 := tx1; have q1 := tx3; have q3 := tx9; have q4 := tx11; have q5 := tx13; have q7 := tx19; have q8 : (0 : Int32).toInt = 0 := (by decide); have q9 : (1 : Int32).toInt = 1 := (by decide); unfold Rg at *; omega) (by have q1 := H_sp; unfold Rg at q1; omega)), (kLet_eq (ti_mul ex1 (rg_lit (n := 2) (by decide)) H_sp (by decide) rfl rfl) (kLet_eq (ti_add ex3 (rg_lit (n := 1379) (by decide)) k2 (by decide) rfl rfl) (kLet_eq (ke_st hg5) (kLet_eq (ti_mul ex9 (rg_lit (n := 2) (by decide)) H_sp (by decide) rfl rfl) (kLet_eq (ti_add ex11 (rg_lit (n := 1379) (by decide)) k10 (by decide) rfl rfl) (kLet_eq (ti_add ex13 k12 (rg_lit (n := 1) (by decide)) (by decide) rfl rfl) (kLet_eq (ke_st hg15) (kLet_eq (ti_add ex19 H_sp (rg_lit (n := 1) (by decide)) (by decide) rfl rfl) rfl))))))))⟩, by rw [ht]; exact hP9, va_K.moved hW.alike hK, hD9⟩, hS.F ht⟩) hS.2.2 dX11_emits_44

def kwX11_readPart : List Cond := .code yX11_readPart cX11_readPart 2 (some .boolean) :: kG
theorem hdX11_readPart : yX11_readPart.cls ≠ "java/lang/invoke/MethodHandle" ∧ yX11_readPart.cls ≠ "java/lang/invoke/VarHandle" ∧ (parseMethodDescriptor yX11_readPart.desc).map (fun d => d.parameters.length) = some 0 := by decide +kernel
theorem gX11_readPart_X11_emits : GoodIn kG (wsV RX11 184 RX11 yX11_emits kwX11_emits) := gK w22_5 (gK w22_6 (gK w22_7 (gK w0_5 (gK w22_8 gGG))))
theorem gX11_readPart_X11_isWord : GoodIn kG (wsV RX11 114 RX11 yX11_isWord kwX11_isWord) := gK w19_7 (gK w19_8 (gK w19_9 (gK w0_5 (gK w19_10 gGG))))
theorem gX11_readPart_X11_letters : GoodIn kG (wsV RX11 111 RX11 yX11_letters kwX11_letters) := gK w18_23 (gK w19_0 (gK w19_1 (gK w0_5 (gK w19_2 gGG))))
theorem gX11_readPart_X11_number : GoodIn kG (wsV RX11 118 RX11 yX11_number kwX11_number) := gK w19_21 (gK w19_22 (gK w19_23 (gK w0_5 (gK w20_0 gGG))))
theorem dX11_readPart_0 : decode cX11_readPart 0 = .ok (.aload_n 0, 1) := by decide +kernel
theorem dX11_readPart_1 : decode cX11_readPart 1 = .ok (.invokevirtual 111, 3) := by decide +kernel
theorem dX11_readPart_4 : decode cX11_readPart 4 = .ok (.aload_n 0, 1) := by decide +kernel
theorem dX11_readPart_5 : decode cX11_readPart 5 = .ok (.getfield 86, 3) := by decide +kernel
theorem dX11_readPart_8 : decode cX11_readPart 8 = .ok (.aload_n 0, 1) := by decide +kernel
theorem dX11_readPart_9 : decode cX11_readPart 9 = .ok (.getfield 96, 3) := by decide +kernel
theorem dX11_readPart_12 : decode cX11_readPart 12 = .ok (.if_icmp .ne 22, 3) := by decide +kernel
theorem dX11_readPart_15 : decode cX11_readPart 15 = .ok (.aload_n 0, 1) := by decide +kernel
theorem dX11_readPart_16 : decode cX11_readPart 16 = .ok (.iconst 0, 1) := by decide +kernel
theorem dX11_readPart_17 : decode cX11_readPart 17 = .ok (.sipush 999, 3) := by decide +kernel
theorem dX11_readPart_20 : decode cX11_readPart 20 = .ok (.invokevirtual 118, 3) := by decide +kernel
theorem dX11_readPart_23 : decode cX11_readPart 23 = .ok (.istore_n 1, 1) := by decide +kernel
theorem dX11_readPart_24 : decode cX11_readPart 24 = .ok (.aload_n 0, 1) := by decide +kernel
theorem dX11_readPart_25 : decode cX11_readPart 25 = .ok (.bipush 12, 2) := by decide +kernel
theorem dX11_readPart_27 : decode cX11_readPart 27 = .ok (.iload_n 1, 1) := by decide +kernel
theorem dX11_readPart_28 : decode cX11_readPart 28 = .ok (.invokevirtual 184, 3) := by decide +kernel
theorem dX11_readPart_31 : decode cX11_readPart 31 = .ok (.goto 131, 3) := by decide +kernel
theorem dX11_readPart_34 : decode cX11_readPart 34 = .ok (.aload_n 0, 1) := by decide +kernel
theorem dX11_readPart_35 : decode cX11_readPart 35 = .ok (.ldc 188, 2) := by decide +kernel
theorem dX11_readPart_37 : decode cX11_readPart 37 = .ok (.invokevirtual 114, 3) := by decide +kernel
theorem dX11_readPart_40 : decode cX11_readPart 40 = .ok (.ifCond .eq 7, 3) := by decide +kernel
theorem dX11_readPart_43 : decode cX11_readPart 43 = .ok (.iconst 0, 1) := by decide +kernel
theorem dX11_readPart_44 : decode cX11_readPart 44 = .ok (.goto 111, 3) := by decide +kernel
theorem dX11_readPart_47 : decode cX11_readPart 47 = .ok (.aload_n 0, 1) := by decide +kernel
theorem dX11_readPart_48 : decode cX11_readPart 48 = .ok (.ldc 145, 2) := by decide +kernel
theorem dX11_readPart_50 : decode cX11_readPart 50 = .ok (.invokevirtual 114, 3) := by decide +kernel
theorem dX11_readPart_53 : decode cX11_readPart 53 = .ok (.ifCond .eq 7, 3) := by decide +kernel
theorem dX11_readPart_56 : decode cX11_readPart 56 = .ok (.iconst 1, 1) := by decide +kernel
theorem dX11_readPart_57 : decode cX11_readPart 57 = .ok (.goto 98, 3) := by decide +kernel
theorem dX11_readPart_60 : decode cX11_readPart 60 = .ok (.aload_n 0, 1) := by decide +kernel
theorem dX11_readPart_61 : decode cX11_readPart 61 = .ok (.ldc 146, 2) := by decide +kernel
theorem dX11_readPart_63 : decode cX11_readPart 63 = .ok (.invokevirtual 114, 3) := by decide +kernel
theorem dX11_readPart_66 : decode cX11_readPart 66 = .ok (.ifCond .eq 7, 3) := by decide +kernel
theorem dX11_readPart_69 : decode cX11_readPart 69 = .ok (.iconst 2, 1) := by decide +kernel
theorem dX11_readPart_70 : decode cX11_readPart 70 = .ok (.goto 85, 3) := by decide +kernel
theorem dX11_readPart_73 : decode cX11_readPart 73 = .ok (.aload_n 0, 1) := by decide +kernel
theorem dX11_readPart_74 : decode cX11_readPart 74 = .ok (.ldc 148, 2) := by decide +kernel
theorem dX11_readPart_76 : decode cX11_readPart 76 = .ok (.invokevirtual 114, 3) := by decide +kernel
theorem dX11_readPart_79 : decode cX11_readPart 79 = .ok (.ifCond .eq 7, 3) := by decide +kernel
theorem dX11_readPart_82 : decode cX11_readPart 82 = .ok (.iconst 3, 1) := by decide +kernel
theorem dX11_readPart_83 : decode cX11_readPart 83 = .ok (.goto 72, 3) := by decide +kernel
theorem dX11_readPart_86 : decode cX11_readPart 86 = .ok (.aload_n 0, 1) := by decide +kernel
theorem dX11_readPart_87 : decode cX11_readPart 87 = .ok (.ldc 189, 2) := by decide +kernel
theorem dX11_readPart_89 : decode cX11_readPart 89 = .ok (.invokevirtual 114, 3) := by decide +kernel
theorem dX11_readPart_92 : decode cX11_readPart 92 = .ok (.ifCond .eq 7, 3) := by decide +kernel
theorem dX11_readPart_95 : decode cX11_readPart 95 = .ok (.iconst 4, 1) := by decide +kernel
theorem dX11_readPart_96 : decode cX11_readPart 96 = .ok (.goto 59, 3) := by decide +kernel
theorem dX11_readPart_99 : decode cX11_readPart 99 = .ok (.aload_n 0, 1) := by decide +kernel
theorem dX11_readPart_100 : decode cX11_readPart 100 = .ok (.ldc 128, 2) := by decide +kernel
theorem dX11_readPart_102 : decode cX11_readPart 102 = .ok (.invokevirtual 114, 3) := by decide +kernel
theorem dX11_readPart_105 : decode cX11_readPart 105 = .ok (.ifCond .eq 7, 3) := by decide +kernel
theorem dX11_readPart_108 : decode cX11_readPart 108 = .ok (.iconst 5, 1) := by decide +kernel
theorem dX11_readPart_109 : decode cX11_readPart 109 = .ok (.goto 46, 3) := by decide +kernel
theorem dX11_readPart_112 : decode cX11_readPart 112 = .ok (.aload_n 0, 1) := by decide +kernel
theorem dX11_readPart_113 : decode cX11_readPart 113 = .ok (.ldc 191, 2) := by decide +kernel
theorem dX11_readPart_115 : decode cX11_readPart 115 = .ok (.invokevirtual 114, 3) := by decide +kernel
theorem dX11_readPart_118 : decode cX11_readPart 118 = .ok (.ifCond .eq 8, 3) := by decide +kernel
theorem dX11_readPart_121 : decode cX11_readPart 121 = .ok (.bipush 6, 2) := by decide +kernel
theorem dX11_readPart_123 : decode cX11_readPart 123 = .ok (.goto 32, 3) := by decide +kernel
theorem dX11_readPart_126 : decode cX11_readPart 126 = .ok (.aload_n 0, 1) := by decide +kernel
theorem dX11_readPart_127 : decode cX11_readPart 127 = .ok (.ldc 134, 2) := by decide +kernel
theorem dX11_readPart_129 : decode cX11_readPart 129 = .ok (.invokevirtual 114, 3) := by decide +kernel
theorem dX11_readPart_132 : decode cX11_readPart 132 = .ok (.ifCond .eq 8, 3) := by decide +kernel
theorem dX11_readPart_135 : decode cX11_readPart 135 = .ok (.bipush 7, 2) := by decide +kernel
theorem dX11_readPart_137 : decode cX11_readPart 137 = .ok (.goto 18, 3) := by decide +kernel
theorem dX11_readPart_140 : decode cX11_readPart 140 = .ok (.aload_n 0, 1) := by decide +kernel
theorem dX11_readPart_141 : decode cX11_readPart 141 = .ok (.ldc 193, 2) := by decide +kernel
theorem dX11_readPart_143 : decode cX11_readPart 143 = .ok (.invokevirtual 114, 3) := by decide +kernel
theorem dX11_readPart_146 : decode cX11_readPart 146 = .ok (.ifCond .eq 8, 3) := by decide +kernel
theorem dX11_readPart_149 : decode cX11_readPart 149 = .ok (.bipush 8, 2) := by decide +kernel
theorem dX11_readPart_151 : decode cX11_readPart 151 = .ok (.goto 4, 3) := by decide +kernel
theorem dX11_readPart_154 : decode cX11_readPart 154 = .ok (.iconst (-1), 1) := by decide +kernel
theorem dX11_readPart_155 : decode cX11_readPart 155 = .ok (.istore_n 1, 1) := by decide +kernel
theorem dX11_readPart_156 : decode cX11_readPart 156 = .ok (.aload_n 0, 1) := by decide +kernel
theorem dX11_readPart_157 : decode cX11_readPart 157 = .ok (.iload_n 1, 1) := by decide +kernel
theorem dX11_readPart_158 : decode cX11_readPart 158 = .ok (.iconst 0, 1) := by decide +kernel
theorem dX11_readPart_159 : decode cX11_readPart 159 = .ok (.invokevirtual 184, 3) := by decide +kernel
theorem dX11_readPart_162 : decode cX11_readPart 162 = .ok (.iload_n 1, 1) := by decide +kernel
theorem dX11_readPart_163 : decode cX11_readPart 163 = .ok (.ifCond .lt 7, 3) := by decide +kernel
theorem dX11_readPart_166 : decode cX11_readPart 166 = .ok (.iconst 1, 1) := by decide +kernel
theorem dX11_readPart_167 : decode cX11_readPart 167 = .ok (.goto 4, 3) := by decide +kernel
theorem dX11_readPart_170 : decode cX11_readPart 170 = .ok (.iconst 0, 1) := by decide +kernel
theorem dX11_readPart_171 : decode cX11_readPart 171 = .ok (.ireturn, 1) := by decide +kernel
set_option maxHeartbeats 4000000 in
set_option maxRecDepth 100000 in
/-- reference: readPart -/
theorem r_readPart (l : Launch) (D : va_G) (cI cJ cB cC : ClassId) (h : Nat) (th : Int32) (aw : Nat) (ai : Nat) (ab : Nat) (ac : Nat) (hi : Int32) (re : Int32) (aP : Nat) (ta : Int32) (po : Int32) (en : Int32) (be : Int32) (de : Int32) (fa : Int32) (a5 : Nat) (sp : Int32) (av : Nat) (an : Nat) (ak : Nat) (ne : Int32) (aW : Nat) (aC : Nat) (ag : Nat) (aT : Nat) (aN : Nat) (aF : Nat) (fw : Nat → Int32) (ft : Nat → Int32) (sz : Nat) (H_po : Rg po 0 400) (H_en : Rg en 0 400) (H_sp : Rg sp 0 395) (H_fw_W : wW fw) (H_fw_B : wB fw) (H_fw_L : wL fw) (H_SP : (sp : Int32).toInt + 5 ≤ (po : Int32).toInt) : Met l yX11_readPart kwX11_readPart ({ frames := 5, cells := 0, slots := 0, locals := 108 } : Room) (kPre D (kT cI cJ cB cC) sz [(h, oX11 th aw ai ab ac hi re aP ta po en be de fa a5 sp av an ak ne aW aC ag aT aN aF), (aw, kcI cI 2179 fw), (aP, .inl (cB, 400, .inl ft))] [.ref h]) (va_Qi (fun (r : Int32) (uu : Int32 × Int32 × Int32 × (Nat → Int32)) => match uu with | (n0_, n1_, n2_, f3_) => Rg n0_ 0 400 ∧ Rg n1_ 0 400 ∧ Rg n2_ 1 400 ∧ wB f3_ ∧ wL f3_ ∧ wW f3_ ∧ F_r_readPart (po : Int32).toInt (en : Int32).toInt (sp : Int32).toInt (gT fw) (gT ft) = ((r : Int32).toInt, (n0_ : Int32).toInt, (n1_ : Int32).toInt, (n2_ : Int32).toInt, (gT f3_)) ∧ ((r = 0) ∨ (r = 1 ∧ rOk fw f3_ sp n2_ po n0_ 1))) (fun (uu : Int32 × Int32 × Int32 × (Nat → Int32)) (t : State) => match uu with | (n0_, n1_, n2_, f3_) => kB D (kT cI cJ cB cC) (va_A [(h, oX11 th aw ai ab ac hi re aP ta po en be de fa a5 sp av an ak ne aW aC ag aT aN aF), (aw, kcI cI 2179 fw), (aP, .inl (cB, 400, .inl ft))] sz) [(h, oX11 th aw ai ab ac hi re aP ta n0_ en n1_ de fa a5 n2_ av an ak ne aW aC ag aT aN aF), (aw, kcI cI 2179 f3_), (aP, .inl (cB, 400, .inl ft))] t) (va_A [(h, oX11 th aw ai ab ac hi re aP ta po en be de fa a5 sp av an ak ne aW aC ag aT aN aF), (aw, kcI cI 2179 fw), (aP, .inl (cB, 400, .inl ft))] sz)) 0 0 (va_A [(h, oX11 th aw ai ab ac hi re aP ta po en be de fa a5 sp av an ak ne aW aC ag aT aN aF), (aw, kcI cI 2179 fw), (aP, .inl (cB, 400, .inl ft))] sz) := by
  refine Met.ofW (cc := cX11_readPart) (maxL := 2) (ret := (some .boolean)) (by decide) rfl ?_
  intro p e s m args below meth c s₁ B hml hv
  obtain ⟨rfl, hsz, hN, hE, hP, hK, hD0⟩ := hv
  have hx := B.exec
  have hb := B.bytes
  have hr := B.returns
  have hts := fun (w : Cond) (h : w ∈ kG) => atoms_spec (ws := kwX11_readPart) B.pre w (List.mem_cons_of_mem _ h)
  have hown : s.vm.findClass RX11 = some m.cls := findClass_of_methodNamed B.named
  subst hsz
  have hD := hD0.self (sz := s.heap.size)
  generalize hAe : va_A [(h, oX11 th aw ai ab ac hi re aP ta po en be de fa a5 sp av an ak ne aW aC ag aT aN aF), (aw, kcI cI 2179 fw), (aP, .inl (cB, 400, .inl ft))] s.heap.size = A at hD hE ⊢
  have hA : ∀ q : Nat, s.heap.size ≤ q → A q := fun q h => by rw [← hAe]; exact Or.inr h
  have hl := lv_entry ([.ref h]) (n := 2) (Nat.le_of_ble_eq_true rfl)
  rw [lg_entry_eq]
  generalize (lg_sl ([.ref h]) ++ List.replicate (2 - (lg_sl ([.ref h])).length) Slot.unset).toArray = ls at hl ⊢
  have hl : lv_has ls 2 [(0, .ref h)] := hl
  obtain ⟨H, hH0⟩ : ∃ H, H = s.heap := ⟨_, rfl⟩
  have hS : va_S A s.heap H [] := by rw [hH0]; exact va_S.rf
  have hP : va_P D vwCl [(h, oX11 th aw ai ab ac hi re aP ta po en be de fa a5 sp av an ak ne aW aC ag aT aN aF), (aw, kcI cI 2179 fw), (aP, .inl (cB, 400, .inl ft))] H := by rw [hH0]; exact hP
  refine kHeap hH0 ?_
  clear hH0
  refine lv_aload_n hx hb dX11_readPart_0 rfl (lv_at hl 0 rfl) ?_
  refine kcallv (wc := [(h, oX11 th aw ai ab ac hi re aP ta po en be de fa a5 sp av an ak ne aW aC ag aT aN aF), (aP, .inl (cB, 400, .inl ft))]) (wr := [(aw, kcI cI 2179 fw)]) hP hD hS hA [0, 2] [1] rfl rfl (by decide) (by decide) (by decide) (fun hPc hDc hFc => va_runV (As := []) (rest := []) ⟨hx, hb, hml, hown, hts⟩ (r_letters l D cI cJ cB cC h th aw ai ab ac hi re aP ta po en be de fa a5 sp av an ak ne aW aC ag aT aN aF ft H.size H_po H_en) (cwV 0 hts gX11_readPart_X11_letters rfl rfl rfl ⟨rfl, hdX11_letters⟩ ⟨Nat.le_of_ble_eq_true rfl, Nat.le_of_ble_eq_true rfl⟩) ⟨kBlind, va_recv hK hPc (ci := 10) (q0 := 0) rfl rfl, fun U hU hW => ⟨rfl, by rw [hU], hN.warm hW, hE.pass hS hFc hW hU, by rw [hU]; exact hPc, va_K.moved hW.alike hK, hDc⟩⟩ rfl rfl hl.1 rfl (lv_room (Nat.le_of_ble_eq_true rfl)) dX11_readPart_1 ⟨Nat.le_of_ble_eq_true rfl, Nat.le_of_ble_eq_true rfl⟩) (fun u H locs hw hP hD hS => ?_)
  obtain ⟨x1, x2⟩ := u
  have hP : va_P D vwCl [(aw, kcI cI 2179 fw), (h, oX11 th aw ai ab ac hi re aP ta x1 en x2 de fa a5 sp av an ak ne aW aC ag aT aN aF), (aP, .inl (cB, 400, .inl ft))] H := hP
  have hD : va_D A [(aw, kcI cI 2179 fw), (h, oX11 th aw ai ab ac hi re aP ta x1 en x2 de fa a5 sp av an ak ne aW aC ag aT aN aF), (aP, .inl (cB, 400, .inl ft))] := hD
  obtain ⟨k3, k4, k5, k6, k7⟩ := hw
  refine lv_aload_n hx hb dX11_readPart_4 rfl (lv_at hl 0 rfl) ?_
  refine va_get (D := D) (ci := 10) (v := .int x1) (C := RX11) (T := TX11) (N := 26) hx hb hts iG_X11 hown hK hP 1 rfl rfl 9 (by decide) (hts _ w18_5) (fun _ h9 => h9) rfl dX11_readPart_5 ?_
  refine lv_aload_n hx hb dX11_readPart_8 rfl (lv_at hl 0 rfl) ?_
  refine va_get (D := D) (ci := 10) (v := .int x2) (C := RX11) (T := TX11) (N := 26) hx hb hts iG_X11 hown hK hP 1 rfl rfl 11 (by decide) (hts _ w17_22) (fun _ h9 => h9) rfl dX11_readPart_9 ?_
  refine lv_icmp_ne (tgt := 34) hx hb dX11_readPart_12 (by decide) (fun c134 => ?_) (fun c134 => ?_)
  · skip
    refine lv_aload_n hx hb dX11_readPart_34 rfl (lv_at hl 0 rfl) ?_
    obtain ⟨q135, q136, hR137, hT138⟩ := kTx_23 hE.2.2
    refine va_ldcS hx hb hown hR137 dX11_readPart_35 ?_
    refine kpurei (wc := [(h, oX11 th aw ai ab ac hi re aP ta x1 en x2 de fa a5 sp av an ak ne aW aC ag aT aN aF), (aP, .inl (cB, 400, .inl ft))]) hP hD hS hA [1, 2] rfl (by decide) (fun hPc hDc hFc => va_runV (As := [.ref q135]) (rest := []) ⟨hx, hb, hml, hown, hts⟩ (r_isWord l D cI cJ cB cC h th aw ai ab ac hi re aP ta x1 en x2 de fa a5 sp av an ak ne aW aC ag aT aN aF ft q135 kSb23 q136 H.size k3 H_en k4 kSb23_le) (cwV 1 hts gX11_readPart_X11_isWord rfl rfl rfl ⟨rfl, hdX11_isWord⟩ ⟨Nat.le_of_ble_eq_true rfl, Nat.le_of_ble_eq_true rfl⟩) ⟨kBlindT, va_recv hK hPc (ci := 10) (q0 := 0) rfl rfl, fun U hU hW => ⟨rfl, by rw [hU], hN.warm hW, hE.pass hS hFc hW hU, hT138.pass hS hFc hW hU, by rw [hU]; exact hPc, va_K.moved hW.alike hK, hDc⟩⟩ rfl rfl hl.1 rfl (lv_room (Nat.le_of_ble_eq_true rfl)) dX11_readPart_37 ⟨Nat.le_of_ble_eq_true rfl, Nat.le_of_ble_eq_true rfl⟩) (fun r139 u H locs hw hP hS => ?_)
    obtain ⟨k140, k141, k142⟩ := hw
    refine k_join (hd := 155) (cells2 := 0) (slots2 := 0) (fun (z235 : Int32) => [.int z235]) (fun (z235 : Int32) (H : Heap) (locs : List Loc) (ls : Array Slot) => (F_r_readPart po.toInt en.toInt sp.toInt (gT fw) (gT ft) = F_r_readPart_j1 sp.toInt (gT fw) x1.toInt x2.toInt z235.toInt) ∧ Rg z235 (-1) 8 ∧ va_P D vwCl [(aw, kcI cI 2179 fw), (h, oX11 th aw ai ab ac hi re aP ta x1 en x2 de fa a5 sp av an ak ne aW aC ag aT aN aF), (aP, .inl (cB, 400, .inl ft))] H ∧ va_D A [(aw, kcI cI 2179 fw), (h, oX11 th aw ai ab ac hi re aP ta x1 en x2 de fa a5 sp av an ak ne aW aC ag aT aN aF), (aP, .inl (cB, 400, .inl ft))] ∧ va_S A s.heap H locs ∧ lv_has ls 2 [(0, .ref h)]) (fun u H locs ls hI => ?_) (fun hJ155 => ?_)
    · skip
      clear hP hD hS hl
      obtain ⟨z235, rfl⟩ : ∃ z, z = u := ⟨_, rfl⟩
      obtain ⟨hF1, hz235, hP, hD, hS, hl⟩ := hI
      have hP : va_P D vwCl [(aw, kcI cI 2179 fw), (h, oX11 th aw ai ab ac hi re aP ta x1 en x2 de fa a5 sp av an ak ne aW aC ag aT aN aF), (aP, .inl (cB, 400, .inl ft))] H := hP
      have hD : va_D A [(aw, kcI cI 2179 fw), (h, oX11 th aw ai ab ac hi re aP ta x1 en x2 de fa a5 sp av an ak ne aW aC ag aT aN aF), (aP, .inl (cB, 400, .inl ft))] := hD
      have hl : lv_has ls 2 [(0, .ref h)] := hl
      show W _ _ _ _ _ _ _ _ _ _ _ _ _ _ _ (F0 m 155 ls [.int z235])
      refine lv_istore_n (lv' := [(1, .int z235), (0, .ref h)]) hx hb dX11_readPart_155 rfl hl (by decide) rfl (fun ls hl => ?_)
      refine lv_aload_n hx hb dX11_readPart_156 rfl (lv_at hl 1 rfl) ?_
      refine lv_iload_n hx hb dX11_readPart_157 rfl (lv_at hl 0 rfl) ?_
      refine lv_iconst (v := 0) hx hb dX11_readPart_158 (by decide) ?_
      refine kcallv (wc := [(h, oX11 th aw ai ab ac hi re aP ta x1 en x2 de fa a5 sp av an ak ne aW aC ag aT aN aF), (aw, kcI cI 2179 fw)]) (wr := [(aP, .inl (cB, 400, .inl ft))]) hP hD hS hA [1, 0] [2] rfl rfl (by decide) (by decide) (by decide) (fun hPc hDc hFc => va_runV (As := [.int z235, .int 0]) (rest := []) ⟨hx, hb, hml, hown, hts⟩ (r_emits l D cI cJ cB cC h th aw ai ab ac hi re aP ta x1 en x2 de fa a5 sp av an ak ne aW aC ag aT aN aF fw z235 0 H.size (rg_w H_sp (by decide)) H_fw_W H_fw_B H_fw_L) (cwV 2 hts gX11_readPart_X11_emits rfl rfl rfl ⟨rfl, hdX11_emits⟩ ⟨Nat.le_of_ble_eq_true rfl, Nat.le_of_ble_eq_true rfl⟩) ⟨kBlind, va_recv hK hPc (ci := 10) (q0 := 0) rfl rfl, fun U hU hW => ⟨rfl, by rw [hU], hN.warm hW, hE.pass hS hFc hW hU, by rw [hU]; exact hPc, va_K.moved hW.alike hK, hDc⟩⟩ rfl rfl hl.1 rfl (lv_room (Nat.le_of_ble_eq_true rfl)) dX11_readPart_159 ⟨Nat.le_of_ble_eq_true rfl, Nat.le_of_ble_eq_true rfl⟩) (fun u H locs hw hP hD hS => ?_)
      obtain ⟨x236, g237⟩ := u
      have hP : va_P D vwCl [(aP, .inl (cB, 400, .inl ft)), (h, oX11 th aw ai ab ac hi re aP ta x1 en x2 de fa a5 x236 av an ak ne aW aC ag aT aN aF), (aw, kcI cI 2179 g237)] H := hP
      have hD : va_D A [(aP, .inl (cB, 400, .inl ft)), (h, oX11 th aw ai ab ac hi re aP ta x1 en x2 de fa a5 x236 av an ak ne aW aC ag aT aN aF), (aw, kcI cI 2179 g237)] := hD
      obtain ⟨k238, k239, k240, k241, k242, k243⟩ := hw
      refine lv_iload_n hx hb dX11_readPart_162 rfl (lv_at hl 0 rfl) ?_
      refine lv_if_lt (tgt := 170) hx hb dX11_readPart_163 (by decide) (fun c247 => ?_) (fun c247 => ?_)
      · skip
        have k248 : Rg z235 (-1) (-1) := rg_l1 (ltI c247) hz235 (rg_lit (n := 0) (by decide)) (by decide)
        refine lv_iconst (v := 0) hx hb dX11_readPart_170 (by decide) ?_
        have hP9 := hP.sub (ws' := [(h, oX11 th aw ai ab ac hi re aP ta x1 en x2 de fa a5 x236 av an ak ne aW aC ag aT aN aF), (aw, kcI cI 2179 g237), (aP, .inl (cB, 400, .inl ft))]) [1, 2, 0] rfl
        have hD9 := hD.sub (ws' := [(h, oX11 th aw ai ab ac hi re aP ta x1 en x2 de fa a5 x236 av an ak ne aW aC ag aT aN aF), (aw, kcI cI 2179 g237), (aP, .inl (cB, 400, .inl ft))]) [1, 2, 0] (by decide) rfl
        exact W.zret (v := 0) hx hb hr (by decide) (fun t ht hW => ⟨⟨0, (x1, x2, x236, g237), rfl, ⟨k3, k4, k238, k239, k240, k241, (hF1.trans (kC_eq k243 (kif_t (ltI c247) rfl))), (Or.inl rfl)⟩, by rw [ht]; exact hP9, va_K.moved hW.alike hK, hD9⟩, hS.F ht⟩) hS.2.2 dX11_readPart_171
      · skip
        have k249 : Rg z235 0 8 := rg_e2 (nltI c247) (rg_lit (n := 0) (by decide)) hz235 (by decide)
        refine lv_iconst (v := 1) hx hb dX11_readPart_166 (by decide) ?_
        refine lv_goto (tgt := 171) hx hb dX11_readPart_167 (by decide) ?_
        have hP9 := hP.sub (ws' := [(h, oX11 th aw ai ab ac hi re aP ta x1 en x2 de fa a5 x236 av an ak ne aW aC ag aT aN aF), (aw, kcI cI 2179 g237), (aP, .inl (cB, 400, .inl ft))]) [1, 2, 0] rfl
        have hD9 := hD.sub (ws' := [(h, oX11 th aw ai ab ac hi re aP ta x1 en x2 de fa a5 x236 av an ak ne aW aC ag aT aN aF), (aw, kcI cI 2179 g237), (aP, .inl (cB, 400, .inl ft))]) [1, 2, 0] (by decide) rfl
        exact W.zret (v := 1) hx hb hr (by decide) (fun t ht hW => ⟨⟨1, (x1, x2, x236, g237), rfl, ⟨k3, k4, k238, k239, k240, k241, (hF1.trans (kC_eq k243 (kif_f (xF_lt c247) rfl))), (Or.inr ⟨rfl, (rOk_part k242 (by have q1 := k249; unfold Rg at q1; exact ⟨by omega, by omega⟩) (by have q0 := H_SP; have q1 := k5; have q3 := k6; have q4 := neI c134; have q5 := neI (Ne.symm c134); have q7 := k141; obtain ⟨-, -, u9, -⟩ := k242; have q11 := (nltI c247); have q12 : (0 : Int32).toInt = 0 := (by decide); have q13 : (1 : Int32).toInt = 1 := (by decide); have q14 : ((nI kSb23.length) : Int32).toInt = 6 := (by decide); unfold Rg at *; omega))⟩)⟩, by rw [ht]; exact hP9, va_K.moved hW.alike hK, hD9⟩, hS.F ht⟩) hS.2.2 dX11_readPart_171
    refine lv_if_eq (tgt := 47) hx hb dX11_readPart_40 (by decide) (fun c250 => ?_) (fun c250 => ?_)
    · skip
      have k251 : Rg r139 0 0 := rg_q1 (eqI c250) k140 (rg_lit (n := 0) (by decide)) (by decide)
      refine lv_aload_n hx hb dX11_readPart_47 rfl (lv_at hl 0 rfl) ?_
      obtain ⟨q252, q253, hR254, hT255⟩ := kTx_9 hE.2.2
      refine va_ldcS hx hb hown hR254 dX11_readPart_48 ?_
      refine kpurei (wc := [(h, oX11 th aw ai ab ac hi re aP ta x1 en x2 de fa a5 sp av an ak ne aW aC ag aT aN aF), (aP, .inl (cB, 400, .inl ft))]) hP hD hS hA [1, 2] rfl (by decide) (fun hPc hDc hFc => va_runV (As := [.ref q252]) (rest := []) ⟨hx, hb, hml, hown, hts⟩ (r_isWord l D cI cJ cB cC h th aw ai ab ac hi re aP ta x1 en x2 de fa a5 sp av an ak ne aW aC ag aT aN aF ft q252 kSb9 q253 H.size k3 H_en k4 kSb9_le) (cwV 1 hts gX11_readPart_X11_isWord rfl rfl rfl ⟨rfl, hdX11_isWord⟩ ⟨Nat.le_of_ble_eq_true rfl, Nat.le_of_ble_eq_true rfl⟩) ⟨kBlindT, va_recv hK hPc (ci := 10) (q0 := 0) rfl rfl, fun U hU hW => ⟨rfl, by rw [hU], hN.warm hW, hE.pass hS hFc hW hU, hT255.pass hS hFc hW hU, by rw [hU]; exact hPc, va_K.moved hW.alike hK, hDc⟩⟩ rfl rfl hl.1 rfl (lv_room (Nat.le_of_ble_eq_true rfl)) dX11_readPart_50 ⟨Nat.le_of_ble_eq_true rfl, Nat.le_of_ble_eq_true rfl⟩) (fun r256 u H locs hw hP hS => ?_)
      obtain ⟨k257, k258, k259⟩ := hw
      refine lv_if_eq (tgt := 60) hx hb dX11_readPart_53 (by decide) (fun c260 => ?_) (fun c260 => ?_)
      · skip
        have k261 : Rg r256 0 0 := rg_q1 (eqI c260) k257 (rg_lit (n := 0) (by decide)) (by decide)
        refine lv_aload_n hx hb dX11_readPart_60 rfl (lv_at hl 0 rfl) ?_
        obtain ⟨q262, q263, hR264, hT265⟩ := kTx_10 hE.2.2
        refine va_ldcS hx hb hown hR264 dX11_readPart_61 ?_
        refine kpurei (wc := [(h, oX11 th aw ai ab ac hi re aP ta x1 en x2 de fa a5 sp av an ak ne aW aC ag aT aN aF), (aP, .inl (cB, 400, .inl ft))]) hP hD hS hA [1, 2] rfl (by decide) (fun hPc hDc hFc => va_runV (As := [.ref q262]) (rest := []) ⟨hx, hb, hml, hown, hts⟩ (r_isWord l D cI cJ cB cC h th aw ai ab ac hi re aP ta x1 en x2 de fa a5 sp av an ak ne aW aC ag aT aN aF ft q262 kSb10 q263 H.size k3 H_en k4 kSb10_le) (cwV 1 hts gX11_readPart_X11_isWord rfl rfl rfl ⟨rfl, hdX11_isWord⟩ ⟨Nat.le_of_ble_eq_true rfl, Nat.le_of_ble_eq_true rfl⟩) ⟨kBlindT, va_recv hK hPc (ci := 10) (q0 := 0) rfl rfl, fun U hU hW => ⟨rfl, by rw [hU], hN.warm hW, hE.pass hS hFc hW hU, hT265.pass hS hFc hW hU, by rw [hU]; exact hPc, va_K.moved hW.alike hK, hDc⟩⟩ rfl rfl hl.1 rfl (lv_room (Nat.le_of_ble_eq_true rfl)) dX11_readPart_63 ⟨Nat.le_of_ble_eq_true rfl, Nat.le_of_ble_eq_true rfl⟩) (fun r266 u H locs hw hP hS => ?_)
        obtain ⟨k267, k268, k269⟩ := hw
        refine lv_if_eq (tgt := 73) hx hb dX11_readPart_66 (by decide) (fun c270 => ?_) (fun c270 => ?_)
        · skip
          have k271 : Rg r266 0 0 := rg_q1 (eqI c270) k267 (rg_lit (n := 0) (by decide)) (by decide)
          refine lv_aload_n hx hb dX11_readPart_73 rfl (lv_at hl 0 rfl) ?_
          obtain ⟨q272, q273, hR274, hT275⟩ := kTx_11 hE.2.2
          refine va_ldcS hx hb hown hR274 dX11_readPart_74 ?_
          refine kpurei (wc := [(h, oX11 th aw ai ab ac hi re aP ta x1 en x2 de fa a5 sp av an ak ne aW aC ag aT aN aF), (aP, .inl (cB, 400, .inl ft))]) hP hD hS hA [1, 2] rfl (by decide) (fun hPc hDc hFc => va_runV (As := [.ref q272]) (rest := []) ⟨hx, hb, hml, hown, hts⟩ (r_isWord l D cI cJ cB cC h th aw ai ab ac hi re aP ta x1 en x2 de fa a5 sp av an ak ne aW aC ag aT aN aF ft q272 kSb11 q273 H.size k3 H_en k4 kSb11_le) (cwV 1 hts gX11_readPart_X11_isWord rfl rfl rfl ⟨rfl, hdX11_isWord⟩ ⟨Nat.le_of_ble_eq_true rfl, Nat.le_of_ble_eq_true rfl⟩) ⟨kBlindT, va_recv hK hPc (ci := 10) (q0 := 0) rfl rfl, fun U hU hW => ⟨rfl, by rw [hU], hN.warm hW, hE.pass hS hFc hW hU, hT275.pass hS hFc hW hU, by rw [hU]; exact hPc, va_K.moved hW.alike hK, hDc⟩⟩ rfl rfl hl.1 rfl (lv_room (Nat.le_of_ble_eq_true rfl)) dX11_readPart_76 ⟨Nat.le_of_ble_eq_true rfl, Nat.le_of_ble_eq_true rfl⟩) (fun r276 u H locs hw hP hS => ?_)
          obtain ⟨k277, k278, k279⟩ := hw
          refine lv_if_eq (tgt := 86) hx hb dX11_readPart_79 (by decide) (fun c280 => ?_) (fun c280 => ?_)
          · skip
            have k281 : Rg r276 0 0 := rg_q1 (eqI c280) k277 (rg_lit (n := 0) (by decide)) (by decide)
            refine lv_aload_n hx hb dX11_readPart_86 rfl (lv_at hl 0 rfl) ?_
            obtain ⟨q282, q283, hR284, hT285⟩ := kTx_24 hE.2.2
            refine va_ldcS hx hb hown hR284 dX11_readPart_87 ?_
            refine kpurei (wc := [(h, oX11 th aw ai ab ac hi re aP ta x1 en x2 de fa a5 sp av an ak ne aW aC ag aT aN aF), (aP, .inl (cB, 400, .inl ft))]) hP hD hS hA [1, 2] rfl (by decide) (fun hPc hDc hFc => va_runV (As := [.ref q282]) (rest := []) ⟨hx, hb, hml, hown, hts⟩ (r_isWord l D cI cJ cB cC h th aw ai ab ac hi re aP ta x1 en x2 de fa a5 sp av an ak ne aW aC ag aT aN aF ft q282 kSb24 q283 H.size k3 H_en k4 kSb24_le) (cwV 1 hts gX11_readPart_X11_isWord rfl rfl rfl ⟨rfl, hdX11_isWord⟩ ⟨Nat.le_of_ble_eq_true rfl, Nat.le_of_ble_eq_true rfl⟩) ⟨kBlindT, va_recv hK hPc (ci := 10) (q0 := 0) rfl rfl, fun U hU hW => ⟨rfl, by rw [hU], hN.warm hW, hE.pass hS hFc hW hU, hT285.pass hS hFc hW hU, by rw [hU]; exact hPc, va_K.moved hW.alike hK, hDc⟩⟩ rfl rfl hl.1 rfl (lv_room (Nat.le_of_ble_eq_true rfl)) dX11_readPart_89 ⟨Nat.le_of_ble_eq_true rfl, Nat.le_of_ble_eq_true rfl⟩) (fun r286 u H locs hw hP hS => ?_)
            obtain ⟨k287, k288, k289⟩ := hw
            refine lv_if_eq (tgt := 99) hx hb dX11_readPart_92 (by decide) (fun c290 => ?_) (fun c290 => ?_)
            · skip
              have k291 : Rg r286 0 0 := rg_q1 (eqI c290) k287 (rg_lit (n := 0) (by decide)) (by decide)
              refine lv_aload_n hx hb dX11_readPart_99 rfl (lv_at hl 0 rfl) ?_
              obtain ⟨q292, q293, hR294, hT295⟩ := kTx_2 hE.2.2
              refine va_ldcS hx hb hown hR294 dX11_readPart_100 ?_
              refine kpurei (wc := [(h, oX11 th aw ai ab ac hi re aP ta x1 en x2 de fa a5 sp av an ak ne aW aC ag aT aN aF), (aP, .inl (cB, 400, .inl ft))]) hP hD hS hA [1, 2] rfl (by decide) (fun hPc hDc hFc => va_runV (As := [.ref q292]) (rest := []) ⟨hx, hb, hml, hown, hts⟩ (r_isWord l D cI cJ cB cC h th aw ai ab ac hi re aP ta x1 en x2 de fa a5 sp av an ak ne aW aC ag aT aN aF ft q292 kSb2 q293 H.size k3 H_en k4 kSb2_le) (cwV 1 hts gX11_readPart_X11_isWord rfl rfl rfl ⟨rfl, hdX11_isWord⟩ ⟨Nat.le_of_ble_eq_true rfl, Nat.le_of_ble_eq_true rfl⟩) ⟨kBlindT, va_recv hK hPc (ci := 10) (q0 := 0) rfl rfl, fun U hU hW => ⟨rfl, by rw [hU], hN.warm hW, hE.pass hS hFc hW hU, hT295.pass hS hFc hW hU, by rw [hU]; exact hPc, va_K.moved hW.alike hK, hDc⟩⟩ rfl rfl hl.1 rfl (lv_room (Nat.le_of_ble_eq_true rfl)) dX11_readPart_102 ⟨Nat.le_of_ble_eq_true rfl, Nat.le_of_ble_eq_true rfl⟩) (fun r296 u H locs hw hP hS => ?_)
              obtain ⟨k297, k298, k299⟩ := hw
              refine lv_if_eq (tgt := 112) hx hb dX11_readPart_105 (by decide) (fun c300 => ?_) (fun c300 => ?_)
              · skip
                have k301 : Rg r296 0 0 := rg_q1 (eqI c300) k297 (rg_lit (n := 0) (by decide)) (by decide)
                refine lv_aload_n hx hb dX11_readPart_112 rfl (lv_at hl 0 rfl) ?_
                obtain ⟨q302, q303, hR304, hT305⟩ := kTx_25 hE.2.2
                refine va_ldcS hx hb hown hR304 dX11_readPart_113 ?_
                refine kpurei (wc := [(h, oX11 th aw ai ab ac hi re aP ta x1 en x2 de fa a5 sp av an ak ne aW aC ag aT aN aF), (aP, .inl (cB, 400, .inl ft))]) hP hD hS hA [1, 2] rfl (by decide) (fun hPc hDc hFc => va_runV (As := [.ref q302]) (rest := []) ⟨hx, hb, hml, hown, hts⟩ (r_isWord l D cI cJ cB cC h th aw ai ab ac hi re aP ta x1 en x2 de fa a5 sp av an ak ne aW aC ag aT aN aF ft q302 kSb25 q303 H.size k3 H_en k4 kSb25_le) (cwV 1 hts gX11_readPart_X11_isWord rfl rfl rfl ⟨rfl, hdX11_isWord⟩ ⟨Nat.le_of_ble_eq_true rfl, Nat.le_of_ble_eq_true rfl⟩) ⟨kBlindT, va_recv hK hPc (ci := 10) (q0 := 0) rfl rfl, fun U hU hW => ⟨rfl, by rw [hU], hN.warm hW, hE.pass hS hFc hW hU, hT305.pass hS hFc hW hU, by rw [hU]; exact hPc, va_K.moved hW.alike hK, hDc⟩⟩ rfl rfl hl.1 rfl (lv_room (Nat.le_of_ble_eq_true rfl)) dX11_readPart_115 ⟨Nat.le_of_ble_eq_true rfl, Nat.le_of_ble_eq_true rfl⟩) (fun r306 u H locs hw hP hS => ?_)
                obtain ⟨k307, k308, k309⟩ := hw
                refine lv_if_eq (tgt := 126) hx hb dX11_readPart_118 (by decide) (fun c310 => ?_) (fun c310 => ?_)
                · skip
                  have k311 : Rg r306 0 0 := rg_q1 (eqI c310) k307 (rg_lit (n := 0) (by decide)) (by decide)
                  refine lv_aload_n hx hb dX11_readPart_126 rfl (lv_at hl 0 rfl) ?_
                  obtain ⟨q312, q313, hR314, hT315⟩ := kTx_3 hE.2.2
                  refine va_ldcS hx hb hown hR314 dX11_readPart_127 ?_
                  refine kpurei (wc := [(h, oX11 th aw ai ab ac hi re aP ta x1 en x2 de fa a5 sp av an ak ne aW aC ag aT aN aF), (aP, .inl (cB, 400, .inl ft))]) hP hD hS hA [1, 2] rfl (by decide) (fun hPc hDc hFc => va_runV (As := [.ref q312]) (rest := []) ⟨hx, hb, hml, hown, hts⟩ (r_isWord l D cI cJ cB cC h th aw ai ab ac hi re aP ta x1 en x2 de fa a5 sp av an ak ne aW aC ag aT aN aF ft q312 kSb3 q313 H.size k3 H_en k4 kSb3_le) (cwV 1 hts gX11_readPart_X11_isWord rfl rfl rfl ⟨rfl, hdX11_isWord⟩ ⟨Nat.le_of_ble_eq_true rfl, Nat.le_of_ble_eq_true rfl⟩) ⟨kBlindT, va_recv hK hPc (ci := 10) (q0 := 0) rfl rfl, fun U hU hW => ⟨rfl, by rw [hU], hN.warm hW, hE.pass hS hFc hW hU, hT315.pass hS hFc hW hU, by rw [hU]; exact hPc, va_K.moved hW.alike hK, hDc⟩⟩ rfl rfl hl.1 rfl (lv_room (Nat.le_of_ble_eq_true rfl)) dX11_readPart_129 ⟨Nat.le_of_ble_eq_true rfl, Nat.le_of_ble_eq_true rfl⟩) (fun r316 u H locs hw hP hS => ?_)
                  obtain ⟨k317, k318, k319⟩ := hw
                  refine lv_if_eq (tgt := 140) hx hb dX11_readPart_132 (by decide) (fun c320 => ?_) (fun c320 => ?_)
                  · skip
                    have k321 : Rg r316 0 0 := rg_q1 (eqI c320) k317 (rg_lit (n := 0) (by decide)) (by decide)
                    refine lv_aload_n hx hb dX11_readPart_140 rfl (lv_at hl 0 rfl) ?_
                    obtain ⟨q322, q323, hR324, hT325⟩ := kTx_26 hE.2.2
                    refine va_ldcS hx hb hown hR324 dX11_readPart_141 ?_
                    refine kpurei (wc := [(h, oX11 th aw ai ab ac hi re aP ta x1 en x2 de fa a5 sp av an ak ne aW aC ag aT aN aF), (aP, .inl (cB, 400, .inl ft))]) hP hD hS hA [1, 2] rfl (by decide) (fun hPc hDc hFc => va_runV (As := [.ref q322]) (rest := []) ⟨hx, hb, hml, hown, hts⟩ (r_isWord l D cI cJ cB cC h th aw ai ab ac hi re aP ta x1 en x2 de fa a5 sp av an ak ne aW aC ag aT aN aF ft q322 kSb26 q323 H.size k3 H_en k4 kSb26_le) (cwV 1 hts gX11_readPart_X11_isWord rfl rfl rfl ⟨rfl, hdX11_isWord⟩ ⟨Nat.le_of_ble_eq_true rfl, Nat.le_of_ble_eq_true rfl⟩) ⟨kBlindT, va_recv hK hPc (ci := 10) (q0 := 0) rfl rfl, fun U hU hW => ⟨rfl, by rw [hU], hN.warm hW, hE.pass hS hFc hW hU, hT325.pass hS hFc hW hU, by rw [hU]; exact hPc, va_K.moved hW.alike hK, hDc⟩⟩ rfl rfl hl.1 rfl (lv_room (Nat.le_of_ble_eq_true rfl)) dX11_readPart_143 ⟨Nat.le_of_ble_eq_true rfl, Nat.le_of_ble_eq_true rfl⟩) (fun r326 u H locs hw hP hS => ?_)
                    obtain ⟨k327, k328, k329⟩ := hw
                    refine lv_if_eq (tgt := 154) hx hb dX11_readPart_146 (by decide) (fun c330 => ?_) (fun c330 => ?_)
                    · skip
                      have k331 : Rg r326 0 0 := rg_q1 (eqI c330) k327 (rg_lit (n := 0) (by decide)) (by decide)
                      refine lv_iconst (v := (-1)) hx hb dX11_readPart_154 (by decide) ?_
                      exact hJ155 ((-1 : Int32)) _ _ _ ⟨(kC_eq k7 (kif_f (neI c134) (kLet_eq (k142).symm (kif_t (eqI c250) (kLet_eq (k259).symm (kif_t (eqI c260) (kLet_eq (k269).symm (kif_t (eqI c270) (kLet_eq (k279).symm (kif_t (eqI c280) (kLet_eq (k289).symm (kif_t (eqI c290) (kLet_eq (k299).symm (kif_t (eqI c300) (kLet_eq (k309).symm (kif_t (eqI c310) (kLet_eq (k319).symm (kif_t (eqI c320) (kLet_eq (k329).symm (kif_t (eqI c330) rfl)))))))))))))))))))), (rg_w (rg_lit (n := -1) (by decide)) (by decide)), hP.sub (ws' := [(aw, kcI cI 2179 fw), (h, oX11 th aw ai ab ac hi re aP ta x1 en x2 de fa a5 sp av an ak ne aW aC ag aT aN aF), (aP, .inl (cB, 400, .inl ft))]) [0, 1, 2] rfl, hD.sub (ws' := [(aw, kcI cI 2179 fw), (h, oX11 th aw ai ab ac hi re aP ta x1 en x2 de fa a5 sp av an ak ne aW aC ag aT aN aF), (aP, .inl (cB, 400, .inl ft))]) [0, 1, 2] (by decide) rfl, hS, lv_sub (l' := [(0, .ref h)]) hl [0] rfl⟩
                    · skip
                      have k332 : Rg r326 1 1 := rg_n1 (neI c330) k327 (rg_lit (n := 0) (by decide)) (by decide)
                      refine lv_bipush (v := 8) hx hb dX11_readPart_149 (by decide) ?_
                      refine lv_goto (tgt := 155) hx hb dX11_readPart_151 (by decide) ?_
                      exact hJ155 ((8 : Int32)) _ _ _ ⟨(kC_eq k7 (kif_f (neI c134) (kLet_eq (k142).symm (kif_t (eqI c250) (kLet_eq (k259).symm (kif_t (eqI c260) (kLet_eq (k269).symm (kif_t (eqI c270) (kLet_eq (k279).symm (kif_t (eqI c280) (kLet_eq (k289).symm (kif_t (eqI c290) (kLet_eq (k299).symm (kif_t (eqI c300) (kLet_eq (k309).symm (kif_t (eqI c310) (kLet_eq (k319).symm (kif_t (eqI c320) (kLet_eq (k329).symm (kif_f (neI c330) rfl)))))))))))))))))))), (rg_w (rg_lit (n := 8) (by decide)) (by decide)), hP.sub (ws' := [(aw, kcI cI 2179 fw), (h, oX11 th aw ai ab ac hi re aP ta x1 en x2 de fa a5 sp av an ak ne aW aC ag aT aN aF), (aP, .inl (cB, 400, .inl ft))]) [0, 1, 2] rfl, hD.sub (ws' := [(aw, kcI cI 2179 fw), (h, oX11 th aw ai ab ac hi re aP ta x1 en x2 de fa a5 sp av an ak ne aW aC ag aT aN aF), (aP, .inl (cB, 400, .inl ft))]) [0, 1, 2] (by decide) rfl, hS, lv_sub (l' := [(0, .ref h)]) hl [0] rfl⟩
                  · skip
                    have k333 : Rg r316 1 1 := rg_n1 (neI c320) k317 (rg_lit (n := 0) (by decide)) (by decide)
                    refine lv_bipush (v := 7) hx hb dX11_readPart_135 (by decide) ?_
                    refine lv_goto (tgt := 155) hx hb dX11_readPart_137 (by decide) ?_
                    exact hJ155 ((7 : Int32)) _ _ _ ⟨(kC_eq k7 (kif_f (neI c134) (kLet_eq (k142).symm (kif_t (eqI c250) (kLet_eq (k259).symm (kif_t (eqI c260) (kLet_eq (k269).symm (kif_t (eqI c270) (kLet_eq (k279).symm (kif_t (eqI c280) (kLet_eq (k289).symm (kif_t (eqI c290) (kLet_eq (k299).symm (kif_t (eqI c300) (kLet_eq (k309).symm (kif_t (eqI c310) (kLet_eq (k319).symm (kif_f (neI c320) rfl)))))))))))))))))), (rg_w (rg_lit (n := 7) (by decide)) (by decide)), hP.sub (ws' := [(aw, kcI cI 2179 fw), (h, oX11 th aw ai ab ac hi re aP ta x1 en x2 de fa a5 sp av an ak ne aW aC ag aT aN aF), (aP, .inl (cB, 400, .inl ft))]) [0, 1, 2] rfl, hD.sub (ws' := [(aw, kcI cI 2179 fw), (h, oX11 th aw ai ab ac hi re aP ta x1 en x2 de fa a5 sp av an ak ne aW aC ag aT aN aF), (aP, .inl (cB, 400, .inl ft))]) [0, 1, 2] (by decide) rfl, hS, lv_sub (l' := [(0, .ref h)]) hl [0] rfl⟩
                · skip
                  have k334 : Rg r306 1 1 := rg_n1 (neI c310) k307 (rg_lit (n := 0) (by decide)) (by decide)
                  refine lv_bipush (v := 6) hx hb dX11_readPart_121 (by decide) ?_
                  refine lv_goto (tgt := 155) hx hb dX11_readPart_123 (by decide) ?_
                  exact hJ155 ((6 : Int32)) _ _ _ ⟨(kC_eq k7 (kif_f (neI c134) (kLet_eq (k142).symm (kif_t (eqI c250) (kLet_eq (k259).symm (kif_t (eqI c260) (kLet_eq (k269).symm (kif_t (eqI c270) (kLet_eq (k279).symm (kif_t (eqI c280) (kLet_eq (k289).symm (kif_t (eqI c290) (kLet_eq (k299).symm (kif_t (eqI c300) (kLet_eq (k309).symm (kif_f (neI c310) rfl)))))))))))))))), (rg_w (rg_lit (n := 6) (by decide)) (by decide)), hP.sub (ws' := [(aw, kcI cI 2179 fw), (h, oX11 th aw ai ab ac hi re aP ta x1 en x2 de fa a5 sp av an ak ne aW aC ag aT aN aF), (aP, .inl (cB, 400, .inl ft))]) [0, 1, 2] rfl, hD.sub (ws' := [(aw, kcI cI 2179 fw), (h, oX11 th aw ai ab ac hi re aP ta x1 en x2 de fa a5 sp av an ak ne aW aC ag aT aN aF), (aP, .inl (cB, 400, .inl ft))]) [0, 1, 2] (by decide) rfl, hS, lv_sub (l' := [(0, .ref h)]) hl [0] rfl⟩
              · skip
                have k335 : Rg r296 1 1 := rg_n1 (neI c300) k297 (rg_lit (n := 0) (by decide)) (by decide)
                refine lv_iconst (v := 5) hx hb dX11_readPart_108 (by decide) ?_
                refine lv_goto (tgt := 155) hx hb dX11_readPart_109 (by decide) ?_
                exact hJ155 ((5 : Int32)) _ _ _ ⟨(kC_eq k7 (kif_f (neI c134) (kLet_eq (k142).symm (kif_t (eqI c250) (kLet_eq (k259).symm (kif_t (eqI c260) (kLet_eq (k269).symm (kif_t (eqI c270) (kLet_eq (k279).symm (kif_t (eqI c280) (kLet_eq (k289).symm (kif_t (eqI c290) (kLet_eq (k299).symm (kif_f (neI c300) rfl)))))))))))))), (rg_w (rg_lit (n := 5) (by decide)) (by decide)), hP.sub (ws' := [(aw, kcI cI 2179 fw), (h, oX11 th aw ai ab ac hi re aP ta x1 en x2 de fa a5 sp av an ak ne aW aC ag aT aN aF), (aP, .inl (cB, 400, .inl ft))]) [0, 1, 2] rfl, hD.sub (ws' := [(aw, kcI cI 2179 fw), (h, oX11 th aw ai ab ac hi re aP ta x1 en x2 de fa a5 sp av an ak ne aW aC ag aT aN aF), (aP, .inl (cB, 400, .inl ft))]) [0, 1, 2] (by decide) rfl, hS, lv_sub (l' := [(0, .ref h)]) hl [0] rfl⟩
            · skip
              have k336 : Rg r286 1 1 := rg_n1 (neI c290) k287 (rg_lit (n := 0) (by decide)) (by decide)
              refine lv_iconst (v := 4) hx hb dX11_readPart_95 (by decide) ?_
              refine lv_goto (tgt := 155) hx hb dX11_readPart_96 (by decide) ?_
              exact hJ155 ((4 : Int32)) _ _ _ ⟨(kC_eq k7 (kif_f (neI c134) (kLet_eq (k142).symm (kif_t (eqI c250) (kLet_eq (k259).symm (kif_t (eqI c260) (kLet_eq (k269).symm (kif_t (eqI c270) (kLet_eq (k279).symm (kif_t (eqI c280) (kLet_eq (k289).symm (kif_f (neI c290) rfl)))))))))))), (rg_w (rg_lit (n := 4) (by decide)) (by decide)), hP.sub (ws' := [(aw, kcI cI 2179 fw), (h, oX11 th aw ai ab ac hi re aP ta x1 en x2 de fa a5 sp av an ak ne aW aC ag aT aN aF), (aP, .inl (cB, 400, .inl ft))]) [0, 1, 2] rfl, hD.sub (ws' := [(aw, kcI cI 2179 fw), (h, oX11 th aw ai ab ac hi re aP ta x1 en x2 de fa a5 sp av an ak ne aW aC ag aT aN aF), (aP, .inl (cB, 400, .inl ft))]) [0, 1, 2] (by decide) rfl, hS, lv_sub (l' := [(0, .ref h)]) hl [0] rfl⟩
          · skip
            have k337 : Rg r276 1 1 := rg_n1 (neI c280) k277 (rg_lit (n := 0) (by decide)) (by decide)
            refine lv_iconst (v := 3) hx hb dX11_readPart_82 (by decide) ?_
            refine lv_goto (tgt := 155) hx hb dX11_readPart_83 (by decide) ?_
            exact hJ155 ((3 : Int32)) _ _ _ ⟨(kC_eq k7 (kif_f (neI c134) (kLet_eq (k142).symm (kif_t (eqI c250) (kLet_eq (k259).symm (kif_t (eqI c260) (kLet_eq (k269).symm (kif_t (eqI c270) (kLet_eq (k279).symm (kif_f (neI c280) rfl)))))))))), (rg_w (rg_lit (n := 3) (by decide)) (by decide)), hP.sub (ws' := [(aw, kcI cI 2179 fw), (h, oX11 th aw ai ab ac hi re aP ta x1 en x2 de fa a5 sp av an ak ne aW aC ag aT aN aF), (aP, .inl (cB, 400, .inl ft))]) [0, 1, 2] rfl, hD.sub (ws' := [(aw, kcI cI 2179 fw), (h, oX11 th aw ai ab ac hi re aP ta x1 en x2 de fa a5 sp av an ak ne aW aC ag aT aN aF), (aP, .inl (cB, 400, .inl ft))]) [0, 1, 2] (by decide) rfl, hS, lv_sub (l' := [(0, .ref h)]) hl [0] rfl⟩
        · skip
          have k338 : Rg r266 1 1 := rg_n1 (neI c270) k267 (rg_lit (n := 0) (by decide)) (by decide)
          refine lv_iconst (v := 2) hx hb dX11_readPart_69 (by decide) ?_
          refine lv_goto (tgt := 155) hx hb dX11_readPart_70 (by decide) ?_
          exact hJ155 ((2 : Int32)) _ _ _ ⟨(kC_eq k7 (kif_f (neI c134) (kLet_eq (k142).symm (kif_t (eqI c250) (kLet_eq (k259).symm (kif_t (eqI c260) (kLet_eq (k269).symm (kif_f (neI c270) rfl)))))))), (rg_w (rg_lit (n := 2) (by decide)) (by decide)), hP.sub (ws' := [(aw, kcI cI 2179 fw), (h, oX11 th aw ai ab ac hi re aP ta x1 en x2 de fa a5 sp av an ak ne aW aC ag aT aN aF), (aP, .inl (cB, 400, .inl ft))]) [0, 1, 2] rfl, hD.sub (ws' := [(aw, kcI cI 2179 fw), (h, oX11 th aw ai ab ac hi re aP ta x1 en x2 de fa a5 sp av an ak ne aW aC ag aT aN aF), (aP, .inl (cB, 400, .inl ft))]) [0, 1, 2] (by decide) rfl, hS, lv_sub (l' := [(0, .ref h)]) hl [0] rfl⟩
      · skip
        have k339 : Rg r256 1 1 := rg_n1 (neI c260) k257 (rg_lit (n := 0) (by decide)) (by decide)
        refine lv_iconst (v := 1) hx hb dX11_readPart_56 (by decide) ?_
        refine lv_goto (tgt := 155) hx hb dX11_readPart_57 (by decide) ?_
        exact hJ155 ((1 : Int32)) _ _ _ ⟨(kC_eq k7 (kif_f (neI c134) (kLet_eq (k142).symm (kif_t (eqI c250) (kLet_eq (k259).symm (kif_f (neI c260) rfl)))))), (rg_w (rg_lit (n := 1) (by decide)) (by decide)), hP.sub (ws' := [(aw, kcI cI 2179 fw), (h, oX11 th aw ai ab ac hi re aP ta x1 en x2 de fa a5 sp av an ak ne aW aC ag aT aN aF), (aP, .inl (cB, 400, .inl ft))]) [0, 1, 2] rfl, hD.sub (ws' := [(aw, kcI cI 2179 fw), (h, oX11 th aw ai ab ac hi re aP ta x1 en x2 de fa a5 sp av an ak ne aW aC ag aT aN aF), (aP, .inl (cB, 400, .inl ft))]) [0, 1, 2] (by decide) rfl, hS, lv_sub (l' := [(0, .ref h)]) hl [0] rfl⟩
    · skip
      have k340 : Rg r139 1 1 := rg_n1 (neI c250) k140 (rg_lit (n := 0) (by decide)) (by decide)
      refine lv_iconst (v := 0) hx hb dX11_readPart_43 (by decide) ?_
      refine lv_goto (tgt := 155) hx hb dX11_readPart_44 (by decide) ?_
      exact hJ155 ((0 : Int32)) _ _ _ ⟨(kC_eq k7 (kif_f (neI c134) (kLet_eq (k142).symm (kif_f (neI c250) rfl)))), (rg_w (rg_lit (n := 0) (by decide)) (by decide)), hP.sub (ws' := [(aw, kcI cI 2179 fw), (h, oX11 th aw ai ab ac hi re aP ta x1 en x2 de fa a5 sp av an ak ne aW aC ag aT aN aF), (aP, .inl (cB, 400, .inl ft))]) [0, 1, 2] rfl, hD.sub (ws' := [(aw, kcI cI 2179 fw), (h, oX11 th aw ai ab ac hi re aP ta x1 en x2 de fa a5 sp av an ak ne aW aC ag aT aN aF), (aP, .inl (cB, 400, .inl ft))]) [0, 1, 2] (by decide) rfl, hS, lv_sub (l' := [(0, .ref h)]) hl [0] rfl⟩
  · skip
    refine lv_aload_n hx hb dX11_readPart_15 rfl (lv_at hl 0 rfl) ?_
    refine lv_iconst (v := 0) hx hb dX11_readPart_16 (by decide) ?_
    refine lv_sipush (v := 999) hx hb dX11_readPart_17 (by decide) ?_
    refine kcalli (wc := [(h, oX11 th aw ai ab ac hi re aP ta x1 en x2 de fa a5 sp av an ak ne aW aC ag aT aN aF), (aP, .inl (cB, 400, .inl ft))]) (wr := [(aw, kcI cI 2179 fw)]) hP hD hS hA [1, 2] [0] rfl rfl (by decide) (by decide) (by decide) (fun hPc hDc hFc => va_runV (As := [.int 0, .int 999]) (rest := []) ⟨hx, hb, hml, hown, hts⟩ (r_number_999 l D cI cJ cB cC h th aw ai ab ac hi re aP ta x1 en x2 de fa a5 sp av an ak ne aW aC ag aT aN aF ft H.size k3 H_en) (cwV 2 hts gX11_readPart_X11_number rfl rfl rfl ⟨rfl, hdX11_number⟩ ⟨Nat.le_of_ble_eq_true rfl, Nat.le_of_ble_eq_true rfl⟩) ⟨kBlind, va_recv hK hPc (ci := 10) (q0 := 0) rfl rfl, fun U hU hW => ⟨rfl, by rw [hU], hN.warm hW, hE.pass hS hFc hW hU, by rw [hU]; exact hPc, va_K.moved hW.alike hK, hDc⟩⟩ rfl rfl hl.1 rfl (lv_room (Nat.le_of_ble_eq_true rfl)) dX11_readPart_20 ⟨Nat.le_of_ble_eq_true rfl, Nat.le_of_ble_eq_true rfl⟩) (fun r341 u H locs hw hP hD hS => ?_)
    obtain ⟨x342, x343⟩ := u
    have hP : va_P D vwCl [(aw, kcI cI 2179 fw), (h, oX11 th aw ai ab ac hi re aP ta x342 en x343 de fa a5 sp av an ak ne aW aC ag aT aN aF), (aP, .inl (cB, 400, .inl ft))] H := hP
    have hD : va_D A [(aw, kcI cI 2179 fw), (h, oX11 th aw ai ab ac hi re aP ta x342 en x343 de fa a5 sp av an ak ne aW aC ag aT aN aF), (aP, .inl (cB, 400, .inl ft))] := hD
    obtain ⟨k344, k345, k346, k347, k348, k349⟩ := hw
    refine lv_istore_n (lv' := [(1, .int r341), (0, .ref h)]) hx hb dX11_readPart_23 rfl hl (by decide) rfl (fun ls hl => ?_)
    refine lv_aload_n hx hb dX11_readPart_24 rfl (lv_at hl 1 rfl) ?_
    refine lv_bipush (v := 12) hx hb dX11_readPart_25 (by decide) ?_
    refine lv_iload_n hx hb dX11_readPart_27 rfl (lv_at hl 0 rfl) ?_
    refine kcallv (wc := [(h, oX11 th aw ai ab ac hi re aP ta x342 en x343 de fa a5 sp av an ak ne aW aC ag aT aN aF), (aw, kcI cI 2179 fw)]) (wr := [(aP, .inl (cB, 400, .inl ft))]) hP hD hS hA [1, 0] [2] rfl rfl (by decide) (by decide) (by decide) (fun hPc hDc hFc => va_runV (As := [.int 12, .int r341]) (rest := []) ⟨hx, hb, hml, hown, hts⟩ (r_emits l D cI cJ cB cC h th aw ai ab ac hi re aP ta x342 en x343 de fa a5 sp av an ak ne aW aC ag aT aN aF fw 12 r341 H.size (rg_w H_sp (by decide)) H_fw_W H_fw_B H_fw_L) (cwV 2 hts gX11_readPart_X11_emits rfl rfl rfl ⟨rfl, hdX11_emits⟩ ⟨Nat.le_of_ble_eq_true rfl, Nat.le_of_ble_eq_true rfl⟩) ⟨kBlind, va_recv hK hPc (ci := 10) (q0 := 0) rfl rfl, fun U hU hW => ⟨rfl, by rw [hU], hN.warm hW, hE.pass hS hFc hW hU, by rw [hU]; exact hPc, va_K.moved hW.alike hK, hDc⟩⟩ rfl rfl hl.1 rfl (lv_room (Nat.le_of_ble_eq_true rfl)) dX11_readPart_28 ⟨Nat.le_of_ble_eq_true rfl, Nat.le_of_ble_eq_true rfl⟩) (fun u H locs hw hP hD hS => ?_)
    obtain ⟨x350, g351⟩ := u
    have hP : va_P D vwCl [(aP, .inl (cB, 400, .inl ft)), (h, oX11 th aw ai ab ac hi re aP ta x342 en x343 de fa a5 x350 av an ak ne aW aC ag aT aN aF), (aw, kcI cI 2179 g351)] H := hP
    have hD : va_D A [(aP, .inl (cB, 400, .inl ft)), (h, oX11 th aw ai ab ac hi re aP ta x342 en x343 de fa a5 x350 av an ak ne aW aC ag aT aN aF), (aw, kcI cI 2179 g351)] := hD
    obtain ⟨k352, k353, k354, k355, k356, k357⟩ := hw
    refine lv_goto (tgt := 162) hx hb dX11_readPart_31 (by decide) ?_
    refine lv_iload_n hx hb dX11_readPart_162 rfl (lv_at hl 0 rfl) ?_
    refine lv_if_lt (tgt := 170) hx hb dX11_readPart_163 (by decide) (fun c361 => ?_) (fun c361 => ?_)
    · skip
      have k362 : Rg r341 (-1) (-1) := rg_l1 (ltI c361) k346 (rg_lit (n := 0) (by decide)) (by decide)
      refine lv_iconst (v := 0) hx hb dX11_readPart_170 (by decide) ?_
      have hP9 := hP.sub (ws' := [(h, oX11 th aw ai ab ac hi re aP ta x342 en x343 de fa a5 x350 av an ak ne aW aC ag aT aN aF), (aw, kcI cI 2179 g351), (aP, .inl (cB, 400, .inl ft))]) [1, 2, 0] rfl
      have hD9 := hD.sub (ws' := [(h, oX11 th aw ai ab ac hi re aP ta x342 en x343 de fa a5 x350 av an ak ne aW aC ag aT aN aF), (aw, kcI cI 2179 g351), (aP, .inl (cB, 400, .inl ft))]) [1, 2, 0] (by decide) rfl
      exact W.zret (v := 0) hx hb hr (by decide) (fun t ht hW => ⟨⟨0, (x342, x343, x350, g351), rfl, ⟨k344, k345, k352, k353, k354, k355, (kC_eq k7 (kif_t (eqI c134) (kC_eq k349 (kC_eq rfl (kC_eq k357 (kif_t (ltI c361) rfl)))))), (Or.inl rfl)⟩, by rw [ht]; exact hP9, va_K.moved hW.alike hK, hD9⟩, hS.F ht⟩) hS.2.2 dX11_readPart_171
    · skip
      have k363 : Rg r341 0 999 := rg_e2 (nltI c361) (rg_lit (n := 0) (by decide)) k346 (by decide)
      refine lv_iconst (v := 1) hx hb dX11_readPart_166 (by decide) ?_
      refine lv_goto (tgt := 171) hx hb dX11_readPart_167 (by decide) ?_
      have hP9 := hP.sub (ws' := [(h, oX11 th aw ai ab ac hi re aP ta x342 en x343 de fa a5 x350 av an ak ne aW aC ag aT aN aF), (aw, kcI cI 2179 g351), (aP, .inl (cB, 400, .inl ft))]) [1, 2, 0] rfl
      have hD9 := hD.sub (ws' := [(h, oX11 th aw ai ab ac hi re aP ta x342 en x343 de fa a5 x350 av an ak ne aW aC ag aT aN aF), (aw, kcI cI 2179 g351), (aP, .inl (cB, 400, .inl ft))]) [1, 2, 0] (by decide) rfl
      exact W.zret (v := 1) hx hb hr (by decide) (fun t ht hW => ⟨⟨1, (x342, x343, x350, g351), rfl, ⟨k344, k345, k352, k353, k354, k355, (kC_eq k7 (kif_t (eqI c134) (kC_eq k349 (kC_eq rfl (kC_eq k357 (kif_f (xF_lt c361) rfl)))))), (Or.inr ⟨rfl, (rOk_part k356 (by decide) (by have q0 := H_SP; have q1 := k5; have q3 := k6; have q4 := (eqI c134); have q5 := k347; have q7 := k348; obtain ⟨-, -, u8, -⟩ := k356; have q10 := (nltI c361); have q11 : (0 : Int32).toInt = 0 := (by decide); have q12 : (1 : Int32).toInt = 1 := (by decide); unfold Rg at *; omega))⟩)⟩, by rw [ht]; exact hP9, va_K.moved hW.alike hK, hD9⟩, hS.F ht⟩) hS.2.2 dX11_readPart_171

def kwX11_readSum : List Cond := .code yX11_readSum cX11_readSum 1 (some .boolean) :: kG
theorem hdX11_readSum : yX11_readSum.cls ≠ "java/lang/invoke/MethodHandle" ∧ yX11_readSum.cls ≠ "java/lang/invoke/VarHandle" ∧ (parseMethodDescriptor yX11_readSum.desc).map (fun d => d.parameters.length) = some 0 := by decide +kernel
theorem gX11_readSum_X11_emits : GoodIn kG (wsV RX11 184 RX11 yX11_emits kwX11_emits) := gK w22_5 (gK w22_6 (gK w22_7 (gK w0_5 (gK w22_8 gGG))))
theorem gX11_readSum_X11_readPart : GoodIn kG (wsV RX11 195 RX11 yX11_readPart kwX11_readPart) := gK w23_2 (gK w23_3 (gK w23_4 (gK w0_5 (gK w23_5 gGG))))
theorem gX11_readSum_X11_sign : GoodIn kG (wsV RX11 198 RX11 yX11_sign kwX11_sign) := gK w22_14 (gK w22_15 (gK w22_16 (gK w0_5 (gK w22_17 gGG))))
theorem dX11_readSum_0 : decode cX11_readSum 0 = .ok (.aload_n 0, 1) := by decide +kernel
theorem dX11_readSum_1 : decode cX11_readSum 1 = .ok (.invokevirtual 195, 3) := by decide +kernel
theorem dX11_readSum_4 : decode cX11_readSum 4 = .ok (.ifCond .ne 5, 3) := by decide +kernel
theorem dX11_readSum_7 : decode cX11_readSum 7 = .ok (.iconst 0, 1) := by decide +kernel
theorem dX11_readSum_8 : decode cX11_readSum 8 = .ok (.ireturn, 1) := by decide +kernel
theorem dX11_readSum_9 : decode cX11_readSum 9 = .ok (.aload_n 0, 1) := by decide +kernel
theorem dX11_readSum_10 : decode cX11_readSum 10 = .ok (.bipush 43, 2) := by decide +kernel
theorem dX11_readSum_12 : decode cX11_readSum 12 = .ok (.invokevirtual 198, 3) := by decide +kernel
theorem dX11_readSum_15 : decode cX11_readSum 15 = .ok (.ifCond .eq 22, 3) := by decide +kernel
theorem dX11_readSum_18 : decode cX11_readSum 18 = .ok (.aload_n 0, 1) := by decide +kernel
theorem dX11_readSum_19 : decode cX11_readSum 19 = .ok (.invokevirtual 195, 3) := by decide +kernel
theorem dX11_readSum_22 : decode cX11_readSum 22 = .ok (.ifCond .ne 5, 3) := by decide +kernel
theorem dX11_readSum_25 : decode cX11_readSum 25 = .ok (.iconst 0, 1) := by decide +kernel
theorem dX11_readSum_26 : decode cX11_readSum 26 = .ok (.ireturn, 1) := by decide +kernel
theorem dX11_readSum_27 : decode cX11_readSum 27 = .ok (.aload_n 0, 1) := by decide +kernel
theorem dX11_readSum_28 : decode cX11_readSum 28 = .ok (.bipush 13, 2) := by decide +kernel
theorem dX11_readSum_30 : decode cX11_readSum 30 = .ok (.iconst 0, 1) := by decide +kernel
theorem dX11_readSum_31 : decode cX11_readSum 31 = .ok (.invokevirtual 184, 3) := by decide +kernel
theorem dX11_readSum_34 : decode cX11_readSum 34 = .ok (.goto (-25), 3) := by decide +kernel
theorem dX11_readSum_37 : decode cX11_readSum 37 = .ok (.iconst 1, 1) := by decide +kernel
theorem dX11_readSum_38 : decode cX11_readSum 38 = .ok (.ireturn, 1) := by decide +kernel
set_option maxHeartbeats 4000000 in
set_option maxRecDepth 100000 in
/-- reference: readSum -/
theorem r_readSum (l : Launch) (D : va_G) (cI cJ cB cC : ClassId) (h : Nat) (th : Int32) (aw : Nat) (ai : Nat) (ab : Nat) (ac : Nat) (hi : Int32) (re : Int32) (aP : Nat) (ta : Int32) (po : Int32) (en : Int32) (be : Int32) (de : Int32) (fa : Int32) (a5 : Nat) (sp : Int32) (av : Nat) (an : Nat) (ak : Nat) (ne : Int32) (aW : Nat) (aC : Nat) (ag : Nat) (aT : Nat) (aN : Nat) (aF : Nat) (fw : Nat → Int32) (ft : Nat → Int32) (sz : Nat) (H_po : Rg po 0 400) (H_en : Rg en 0 400) (H_sp : Rg sp 0 395) (H_fw_W : wW fw) (H_fw_B : wB fw) (H_fw_L : wL fw) (H_SP : (sp : Int32).toInt + 5 ≤ (po : Int32).toInt) : Met l yX11_readSum kwX11_readSum ({ frames := 6, cells := 0, slots := 0, locals := 129 } : Room) (kPre D (kT cI cJ cB cC) sz [(h, oX11 th aw ai ab ac hi re aP ta po en be de fa a5 sp av an ak ne aW aC ag aT aN aF), (aw, kcI cI 2179 fw), (aP, .inl (cB, 400, .inl ft))] [.ref h]) (va_Qi (fun (r : Int32) (uu : Int32 × Int32 × Int32 × (Nat → Int32)) => match uu with | (n0_, n1_, n2_, f3_) => Rg n0_ 0 400 ∧ Rg n1_ 0 400 ∧ Rg n2_ 0 400 ∧ wB f3_ ∧ wL f3_ ∧ wW f3_ ∧ F_r_readSum (po : Int32).toInt (en : Int32).toInt (sp : Int32).toInt (gT fw) (gT ft) = ((r : Int32).toInt, (n0_ : Int32).toInt, (n1_ : Int32).toInt, (n2_ : Int32).toInt, (gT f3_)) ∧ ((r = 0) ∨ (r = 1 ∧ rOk fw f3_ sp n2_ po n0_ 1))) (fun (uu : Int32 × Int32 × Int32 × (Nat → Int32)) (t : State) => match uu with | (n0_, n1_, n2_, f3_) => kB D (kT cI cJ cB cC) (va_A [(h, oX11 th aw ai ab ac hi re aP ta po en be de fa a5 sp av an ak ne aW aC ag aT aN aF), (aw, kcI cI 2179 fw), (aP, .inl (cB, 400, .inl ft))] sz) [(h, oX11 th aw ai ab ac hi re aP ta n0_ en n1_ de fa a5 n2_ av an ak ne aW aC ag aT aN aF), (aw, kcI cI 2179 f3_), (aP, .inl (cB, 400, .inl ft))] t) (va_A [(h, oX11 th aw ai ab ac hi re aP ta po en be de fa a5 sp av an ak ne aW aC ag aT aN aF), (aw, kcI cI 2179 fw), (aP, .inl (cB, 400, .inl ft))] sz)) 0 0 (va_A [(h, oX11 th aw ai ab ac hi re aP ta po en be de fa a5 sp av an ak ne aW aC ag aT aN aF), (aw, kcI cI 2179 fw), (aP, .inl (cB, 400, .inl ft))] sz) := by
  refine Met.ofW (cc := cX11_readSum) (maxL := 1) (ret := (some .boolean)) (by decide) rfl ?_
  intro p e s m args below meth c s₁ B hml hv
  obtain ⟨rfl, hsz, hN, hE, hP, hK, hD0⟩ := hv
  have hx := B.exec
  have hb := B.bytes
  have hr := B.returns
  have hts := fun (w : Cond) (h : w ∈ kG) => atoms_spec (ws := kwX11_readSum) B.pre w (List.mem_cons_of_mem _ h)
  have hown : s.vm.findClass RX11 = some m.cls := findClass_of_methodNamed B.named
  subst hsz
  have hD := hD0.self (sz := s.heap.size)
  generalize hAe : va_A [(h, oX11 th aw ai ab ac hi re aP ta po en be de fa a5 sp av an ak ne aW aC ag aT aN aF), (aw, kcI cI 2179 fw), (aP, .inl (cB, 400, .inl ft))] s.heap.size = A at hD hE ⊢
  have hA : ∀ q : Nat, s.heap.size ≤ q → A q := fun q h => by rw [← hAe]; exact Or.inr h
  have hl := lv_entry ([.ref h]) (n := 1) (Nat.le_of_ble_eq_true rfl)
  rw [lg_entry_eq]
  generalize (lg_sl ([.ref h]) ++ List.replicate (1 - (lg_sl ([.ref h])).length) Slot.unset).toArray = ls at hl ⊢
  have hl : lv_has ls 1 [(0, .ref h)] := hl
  obtain ⟨H, hH0⟩ : ∃ H, H = s.heap := ⟨_, rfl⟩
  have hS : va_S A s.heap H [] := by rw [hH0]; exact va_S.rf
  have hP : va_P D vwCl [(h, oX11 th aw ai ab ac hi re aP ta po en be de fa a5 sp av an ak ne aW aC ag aT aN aF), (aw, kcI cI 2179 fw), (aP, .inl (cB, 400, .inl ft))] H := by rw [hH0]; exact hP
  refine kHeap hH0 ?_
  clear hH0
  refine lv_aload_n hx hb dX11_readSum_0 rfl (lv_at hl 0 rfl) ?_
  refine kcalli (wc := [(h, oX11 th aw ai ab ac hi re aP ta po en be de fa a5 sp av an ak ne aW aC ag aT aN aF), (aw, kcI cI 2179 fw), (aP, .inl (cB, 400, .inl ft))]) (wr := []) hP hD hS hA [0, 1, 2] [] rfl rfl (by decide) (by decide) (by decide) (fun hPc hDc hFc => va_runV (As := []) (rest := []) ⟨hx, hb, hml, hown, hts⟩ (r_readPart l D cI cJ cB cC h th aw ai ab ac hi re aP ta po en be de fa a5 sp av an ak ne aW aC ag aT aN aF fw ft H.size H_po H_en H_sp H_fw_W H_fw_B H_fw_L H_SP) (cwV 0 hts gX11_readSum_X11_readPart rfl rfl rfl ⟨rfl, hdX11_readPart⟩ ⟨Nat.le_of_ble_eq_true rfl, Nat.le_of_ble_eq_true rfl⟩) ⟨kBlind, va_recv hK hPc (ci := 10) (q0 := 0) rfl rfl, fun U hU hW => ⟨rfl, by rw [hU], hN.warm hW, hE.pass hS hFc hW hU, by rw [hU]; exact hPc, va_K.moved hW.alike hK, hDc⟩⟩ rfl rfl hl.1 rfl (lv_room (Nat.le_of_ble_eq_true rfl)) dX11_readSum_1 ⟨Nat.le_of_ble_eq_true rfl, Nat.le_of_ble_eq_true rfl⟩) (fun r1 u H locs hw hP hD hS => ?_)
  obtain ⟨x2, x3, x4, g5⟩ := u
  have hP : va_P D vwCl [(h, oX11 th aw ai ab ac hi re aP ta x2 en x3 de fa a5 x4 av an ak ne aW aC ag aT aN aF), (aw, kcI cI 2179 g5), (aP, .inl (cB, 400, .inl ft))] H := hP
  have hD : va_D A [(h, oX11 th aw ai ab ac hi re aP ta x2 en x3 de fa a5 x4 av an ak ne aW aC ag aT aN aF), (aw, kcI cI 2179 g5), (aP, .inl (cB, 400, .inl ft))] := hD
  obtain ⟨k6, k7, k8, k9, k10, k11, k12, hw⟩ := hw
  rcases hw with rfl | ⟨rfl, kc13_0⟩
  · skip
    refine lv_if_ne (tgt := 9) hx hb dX11_readSum_4 (by decide) (fun c14 => absurd (by decide) c14) (fun _ => ?_)
    refine lv_iconst (v := 0) hx hb dX11_readSum_7 (by decide) ?_
    have hP9 := hP.sub (ws' := [(h, oX11 th aw ai ab ac hi re aP ta x2 en x3 de fa a5 x4 av an ak ne aW aC ag aT aN aF), (aw, kcI cI 2179 g5), (aP, .inl (cB, 400, .inl ft))]) [0, 1, 2] rfl
    have hD9 := hD.sub (ws' := [(h, oX11 th aw ai ab ac hi re aP ta x2 en x3 de fa a5 x4 av an ak ne aW aC ag aT aN aF), (aw, kcI cI 2179 g5), (aP, .inl (cB, 400, .inl ft))]) [0, 1, 2] (by decide) rfl
    exact W.zret (v := 0) hx hb hr (by decide) (fun t ht hW => ⟨⟨0, (x2, x3, x4, g5), rfl, ⟨k6, k7, (rg_w k8 (by decide)), k9, k10, k11, (kC_eq k12 (kC_eq rfl (kC_eq rfl (kC_eq rfl (kif_t rfl rfl))))), (Or.inl rfl)⟩, by rw [ht]; exact hP9, va_K.moved hW.alike hK, hD9⟩, hS.F ht⟩) hS.2.2 dX11_readSum_8
  · skip
    refine lv_if_ne (tgt := 9) hx hb dX11_readSum_4 (by decide) (fun _ => ?_) (fun c15 => absurd c15 (by decide))
    refine k_loop (hd := 9) (fun (u : Int32 × Int32 × Int32 × (Nat → Int32)) => match u with | (y172, y173, y174, g175) => (400 - (y172).toInt).toNat) (fun (u : Int32 × Int32 × Int32 × (Nat → Int32)) (H : Heap) (locs : List Loc) (ls : Array Slot) => match u with | (y172, y173, y174, g175) => (rOk fw g175 sp y174 po y172 1) ∧ (F_r_readSum po.toInt en.toInt sp.toInt (gT fw) (gT ft) = F_r_readSum_l1 en.toInt (gT ft) (y172.toInt, y173.toInt, y174.toInt, (gT g175))) ∧ Rg y172 0 400 ∧ Rg y173 0 400 ∧ Rg y174 1 400 ∧ wB g175 ∧ wL g175 ∧ wW g175 ∧ va_P D vwCl [(h, oX11 th aw ai ab ac hi re aP ta y172 en y173 de fa a5 y174 av an ak ne aW aC ag aT aN aF), (aw, kcI cI 2179 g175), (aP, .inl (cB, 400, .inl ft))] H ∧ va_D A [(h, oX11 th aw ai ab ac hi re aP ta y172 en y173 de fa a5 y174 av an ak ne aW aC ag aT aN aF), (aw, kcI cI 2179 g175), (aP, .inl (cB, 400, .inl ft))] ∧ va_S A s.heap H locs ∧ lv_has ls 1 [(0, .ref h)]) (x2, x3, x4, g5) ⟨kc13_0, (kC_eq k12 (kC_eq rfl (kC_eq rfl (kC_eq rfl (kif_f (by decide) rfl))))), k6, k7, k8, k9, k10, k11, hP.sub (ws' := [(h, oX11 th aw ai ab ac hi re aP ta x2 en x3 de fa a5 x4 av an ak ne aW aC ag aT aN aF), (aw, kcI cI 2179 g5), (aP, .inl (cB, 400, .inl ft))]) [0, 1, 2] rfl, hD.sub (ws' := [(h, oX11 th aw ai ab ac hi re aP ta x2 en x3 de fa a5 x4 av an ak ne aW aC ag aT aN aF), (aw, kcI cI 2179 g5), (aP, .inl (cB, 400, .inl ft))]) [0, 1, 2] (by decide) rfl, hS, lv_sub (l' := [(0, .ref h)]) hl [0] rfl⟩ (fun u H locs ls hI ih176 => ?_)
    clear hP hD hS hl
    obtain ⟨y172, y173, y174, g175⟩ := u
    obtain ⟨hX9_0, hF1, hy172, hy173, hy174, hg175_0, hg175_1, hg175_2, hP, hD, hS, hl⟩ := hI
    have hP : va_P D vwCl [(h, oX11 th aw ai ab ac hi re aP ta y172 en y173 de fa a5 y174 av an ak ne aW aC ag aT aN aF), (aw, kcI cI 2179 g175), (aP, .inl (cB, 400, .inl ft))] H := hP
    have hD : va_D A [(h, oX11 th aw ai ab ac hi re aP ta y172 en y173 de fa a5 y174 av an ak ne aW aC ag aT aN aF), (aw, kcI cI 2179 g175), (aP, .inl (cB, 400, .inl ft))] := hD
    have hl : lv_has ls 1 [(0, .ref h)] := hl
    have k177 : Rg y174 0 395 := (by obtain ⟨-, -, u1, u2, u3⟩ := hX9_0; have q1 := H_SP; have q2 := hy172; have q3 := hy174; unfold Rg at *; exact ⟨by omega, by omega⟩)
    refine lv_aload_n hx hb dX11_readSum_9 rfl (lv_at hl 0 rfl) ?_
    refine lv_bipush (v := 43) hx hb dX11_readSum_10 (by decide) ?_
    refine kcalli (wc := [(h, oX11 th aw ai ab ac hi re aP ta y172 en y173 de fa a5 y174 av an ak ne aW aC ag aT aN aF), (aP, .inl (cB, 400, .inl ft))]) (wr := [(aw, kcI cI 2179 g175)]) hP hD hS hA [0, 2] [1] rfl rfl (by decide) (by decide) (by decide) (fun hPc hDc hFc => va_runV (As := [.int 43]) (rest := []) ⟨hx, hb, hml, hown, hts⟩ (r_sign l D cI cJ cB cC h th aw ai ab ac hi re aP ta y172 en y173 de fa a5 y174 av an ak ne aW aC ag aT aN aF ft 43 H.size hy172 H_en) (cwV 1 hts gX11_readSum_X11_sign rfl rfl rfl ⟨rfl, hdX11_sign⟩ ⟨Nat.le_of_ble_eq_true rfl, Nat.le_of_ble_eq_true rfl⟩) ⟨kBlind, va_recv hK hPc (ci := 10) (q0 := 0) rfl rfl, fun U hU hW => ⟨rfl, by rw [hU], hN.warm hW, hE.pass hS hFc hW hU, by rw [hU]; exact hPc, va_K.moved hW.alike hK, hDc⟩⟩ rfl rfl hl.1 rfl (lv_room (Nat.le_of_ble_eq_true rfl)) dX11_readSum_12 ⟨Nat.le_of_ble_eq_true rfl, Nat.le_of_ble_eq_true rfl⟩) (fun r178 u H locs hw hP hD hS => ?_)
    obtain ⟨x179, x180⟩ := u
    have hP : va_P D vwCl [(aw, kcI cI 2179 g175), (h, oX11 th aw ai ab ac hi re aP ta x179 en x180 de fa a5 y174 av an ak ne aW aC ag aT aN aF), (aP, .inl (cB, 400, .inl ft))] H := hP
    have hD : va_D A [(aw, kcI cI 2179 g175), (h, oX11 th aw ai ab ac hi re aP ta x179 en x180 de fa a5 y174 av an ak ne aW aC ag aT aN aF), (aP, .inl (cB, 400, .inl ft))] := hD
    obtain ⟨k181, k182, k183, hw⟩ := hw
    rcases hw with ⟨rfl, kc184_0⟩ | ⟨rfl, kc184_0, kc184_1⟩
    · skip
      refine lv_if_eq (tgt := 37) hx hb dX11_readSum_15 (by decide) (fun _ => ?_) (fun c185 => absurd (by decide) c185)
      refine lv_iconst (v := 1) hx hb dX11_readSum_37 (by decide) ?_
      have hP9 := hP.sub (ws' := [(h, oX11 th aw ai ab ac hi re aP ta x179 en x180 de fa a5 y174 av an ak ne aW aC ag aT aN aF), (aw, kcI cI 2179 g175), (aP, .inl (cB, 400, .inl ft))]) [1, 0, 2] rfl
      have hD9 := hD.sub (ws' := [(h, oX11 th aw ai ab ac hi re aP ta x179 en x180 de fa a5 y174 av an ak ne aW aC ag aT aN aF), (aw, kcI cI 2179 g175), (aP, .inl (cB, 400, .inl ft))]) [1, 0, 2] (by decide) rfl
      exact W.zret (v := 1) hx hb hr (by decide) (fun t ht hW => ⟨⟨1, (x179, x180, y174, g175), rfl, ⟨k181, k182, (rg_w k177 (by decide)), hg175_0, hg175_1, hg175_2, (hF1.trans (kIter_out (kC_eq rfl (kC_eq rfl (kC_eq rfl (kC_eq k183 (kC_eq rfl (kif_t rfl rfl)))))))), (Or.inr ⟨rfl, (rOk_le hX9_0 (Int.le_refl _) (by have q0 := H_SP; obtain ⟨-, -, u1, v1, w1⟩ := kc13_0; obtain ⟨-, -, u3, v3, w3⟩ := hX9_0; have q4 := kc184_0; have q5 : (0 : Int32).toInt = 0 := (by decide); have q6 : (1 : Int32).toInt = 1 := (by decide); unfold Rg at *; omega))⟩)⟩, by rw [ht]; exact hP9, va_K.moved hW.alike hK, hD9⟩, hS.F ht⟩) hS.2.2 dX11_readSum_38
    · skip
      refine lv_if_eq (tgt := 37) hx hb dX11_readSum_15 (by decide) (fun c186 => absurd c186 (by decide)) (fun _ => ?_)
      refine lv_aload_n hx hb dX11_readSum_18 rfl (lv_at hl 0 rfl) ?_
      have k187 : (y174 : Int32).toInt + 5 ≤ (x179 : Int32).toInt := (by have q0 := H_SP; obtain ⟨-, -, u1, v1, w1⟩ := kc13_0; obtain ⟨-, -, u3, v3, w3⟩ := hX9_0; have q4 := kc184_1; have q5 := k177; have q6 := k181; have q7 : (0 : Int32).toInt = 0 := (by decide); have q8 : (1 : Int32).toInt = 1 := (by decide); unfold Rg at *; omega)
      refine kcalli (wc := [(h, oX11 th aw ai ab ac hi re aP ta x179 en x180 de fa a5 y174 av an ak ne aW aC ag aT aN aF), (aw, kcI cI 2179 g175), (aP, .inl (cB, 400, .inl ft))]) (wr := []) hP hD hS hA [1, 0, 2] [] rfl rfl (by decide) (by decide) (by decide) (fun hPc hDc hFc => va_runV (As := []) (rest := []) ⟨hx, hb, hml, hown, hts⟩ (r_readPart l D cI cJ cB cC h th aw ai ab ac hi re aP ta x179 en x180 de fa a5 y174 av an ak ne aW aC ag aT aN aF g175 ft H.size k181 (rg_w kc184_0 (by decide)) k177 hg175_2 hg175_0 hg175_1 k187) (cwV 0 hts gX11_readSum_X11_readPart rfl rfl rfl ⟨rfl, hdX11_readPart⟩ ⟨Nat.le_of_ble_eq_true rfl, Nat.le_of_ble_eq_true rfl⟩) ⟨kBlind, va_recv hK hPc (ci := 10) (q0 := 0) rfl rfl, fun U hU hW => ⟨rfl, by rw [hU], hN.warm hW, hE.pass hS hFc hW hU, by rw [hU]; exact hPc, va_K.moved hW.alike hK, hDc⟩⟩ rfl rfl hl.1 rfl (lv_room (Nat.le_of_ble_eq_true rfl)) dX11_readSum_19 ⟨Nat.le_of_ble_eq_true rfl, Nat.le_of_ble_eq_true rfl⟩) (fun r188 u H locs hw hP hD hS => ?_)
      obtain ⟨x189, x190, x191, g192⟩ := u
      have hP : va_P D vwCl [(h, oX11 th aw ai ab ac hi re aP ta x189 en x190 de fa a5 x191 av an ak ne aW aC ag aT aN aF), (aw, kcI cI 2179 g192), (aP, .inl (cB, 400, .inl ft))] H := hP
      have hD : va_D A [(h, oX11 th aw ai ab ac hi re aP ta x189 en x190 de fa a5 x191 av an ak ne aW aC ag aT aN aF), (aw, kcI cI 2179 g192), (aP, .inl (cB, 400, .inl ft))] := hD
      obtain ⟨k193, k194, k195, k196, k197, k198, k199, hw⟩ := hw
      rcases hw with rfl | ⟨rfl, kc200_0⟩
      · skip
        refine lv_if_ne (tgt := 27) hx hb dX11_readSum_22 (by decide) (fun c201 => absurd (by decide) c201) (fun _ => ?_)
        refine lv_iconst (v := 0) hx hb dX11_readSum_25 (by decide) ?_
        have hP9 := hP.sub (ws' := [(h, oX11 th aw ai ab ac hi re aP ta x189 en x190 de fa a5 x191 av an ak ne aW aC ag aT aN aF), (aw, kcI cI 2179 g192), (aP, .inl (cB, 400, .inl ft))]) [0, 1, 2] rfl
        have hD9 := hD.sub (ws' := [(h, oX11 th aw ai ab ac hi re aP ta x189 en x190 de fa a5 x191 av an ak ne aW aC ag aT aN aF), (aw, kcI cI 2179 g192), (aP, .inl (cB, 400, .inl ft))]) [0, 1, 2] (by decide) rfl
        exact W.zret (v := 0) hx hb hr (by decide) (fun t ht hW => ⟨⟨0, (x189, x190, x191, g192), rfl, ⟨k193, k194, (rg_w k195 (by decide)), k196, k197, k198, (hF1.trans (kIter_out (kC_eq rfl (kC_eq rfl (kC_eq rfl (kC_eq k183 (kC_eq rfl (kif_f (by decide) (kC_eq k199 (kC_eq rfl (kC_eq rfl (kC_eq rfl (kif_t rfl rfl))))))))))))), (Or.inl rfl)⟩, by rw [ht]; exact hP9, va_K.moved hW.alike hK, hD9⟩, hS.F ht⟩) hS.2.2 dX11_readSum_26
      · skip
        refine lv_if_ne (tgt := 27) hx hb dX11_readSum_22 (by decide) (fun _ => ?_) (fun c202 => absurd c202 (by decide))
        refine lv_aload_n hx hb dX11_readSum_27 rfl (lv_at hl 0 rfl) ?_
        refine lv_bipush (v := 13) hx hb dX11_readSum_28 (by decide) ?_
        refine lv_iconst (v := 0) hx hb dX11_readSum_30 (by decide) ?_
        have k203 : (x191 : Int32).toInt + 5 ≤ (x189 : Int32).toInt := (by have q0 := H_SP; obtain ⟨-, -, u1, v1, w1⟩ := kc13_0; obtain ⟨-, -, u3, v3, w3⟩ := hX9_0; have q4 := kc184_1; have q5 := k187; obtain ⟨-, -, u6, v6, w6⟩ := kc200_0; have q7 := k195; have q8 := k193; have q9 : (0 : Int32).toInt = 0 := (by decide); have q10 : (1 : Int32).toInt = 1 := (by decide); unfold Rg at *; omega)
        have k204 : Rg x191 0 395 := (by have q1 := k203; have q2 := k195; have q3 := k193; unfold Rg at *; exact ⟨by omega, by omega⟩)
        refine kcallv (wc := [(h, oX11 th aw ai ab ac hi re aP ta x189 en x190 de fa a5 x191 av an ak ne aW aC ag aT aN aF), (aw, kcI cI 2179 g192)]) (wr := [(aP, .inl (cB, 400, .inl ft))]) hP hD hS hA [0, 1] [2] rfl rfl (by decide) (by decide) (by decide) (fun hPc hDc hFc => va_runV (As := [.int 13, .int 0]) (rest := []) ⟨hx, hb, hml, hown, hts⟩ (r_emits l D cI cJ cB cC h th aw ai ab ac hi re aP ta x189 en x190 de fa a5 x191 av an ak ne aW aC ag aT aN aF g192 13 0 H.size (rg_w k204 (by decide)) k198 k196 k197) (cwV 2 hts gX11_readSum_X11_emits rfl rfl rfl ⟨rfl, hdX11_emits⟩ ⟨Nat.le_of_ble_eq_true rfl, Nat.le_of_ble_eq_true rfl⟩) ⟨kBlind, va_recv hK hPc (ci := 10) (q0 := 0) rfl rfl, fun U hU hW => ⟨rfl, by rw [hU], hN.warm hW, hE.pass hS hFc hW hU, by rw [hU]; exact hPc, va_K.moved hW.alike hK, hDc⟩⟩ rfl rfl hl.1 rfl (lv_room (Nat.le_of_ble_eq_true rfl)) dX11_readSum_31 ⟨Nat.le_of_ble_eq_true rfl, Nat.le_of_ble_eq_true rfl⟩) (fun u H locs hw hP hD hS => ?_)
        obtain ⟨x205, g206⟩ := u
        have hP : va_P D vwCl [(aP, .inl (cB, 400, .inl ft)), (h, oX11 th aw ai ab ac hi re aP ta x189 en x190 de fa a5 x205 av an ak ne aW aC ag aT aN aF), (aw, kcI cI 2179 g206)] H := hP
        have hD : va_D A [(aP, .inl (cB, 400, .inl ft)), (h, oX11 th aw ai ab ac hi re aP ta x189 en x190 de fa a5 x205 av an ak ne aW aC ag aT aN aF), (aw, kcI cI 2179 g206)] := hD
        obtain ⟨k207, k208, k209, k210, k211, k212⟩ := hw
        refine lv_goto (tgt := 9) hx hb dX11_readSum_34 (by decide) ?_
        exact ih176 (x189, x190, x205, g206) _ _ _ (by show (400 - (x189).toInt).toNat < (400 - (y172).toInt).toNat; have q0 := H_SP; obtain ⟨-, -, u1, v1, w1⟩ := kc13_0; obtain ⟨-, -, u3, v3, w3⟩ := hX9_0; have q4 := kc184_1; have q5 := k187; obtain ⟨-, -, u6, v6, w6⟩ := kc200_0; have q7 := k203; obtain ⟨-, -, u8, -⟩ := k211; have q10 := k193; have q11 := hy172; have q12 : (0 : Int32).toInt = 0 := (by decide); have q13 : (1 : Int32).toInt = 1 := (by decide); unfold Rg at *; omega) ⟨(rOk_bin hX9_0 (by have q0 := H_SP; obtain ⟨-, -, u1, v1, w1⟩ := kc13_0; obtain ⟨-, -, u3, v3, w3⟩ := hX9_0; have q4 := kc184_1; have q5 := k187; obtain ⟨-, -, u6, v6, w6⟩ := kc200_0; have q7 := k203; obtain ⟨-, -, u8, -⟩ := k211; have q10 : (0 : Int32).toInt = 0 := (by decide); have q11 : (1 : Int32).toInt = 1 := (by decide); unfold Rg at *; omega) kc200_0 k211 (by decide) (by decide)), (hF1.trans (kIter_go (kC_eq rfl (kC_eq rfl (kC_eq rfl (kC_eq k183 (kC_eq rfl (kif_f (by decide) (kC_eq k199 (kC_eq rfl (kC_eq rfl (kC_eq rfl (kif_f (by decide) (kC_eq k212 rfl)))))))))))))), k193, k194, k207, k208, k209, k210, hP.sub (ws' := [(h, oX11 th aw ai ab ac hi re aP ta x189 en x190 de fa a5 x205 av an ak ne aW aC ag aT aN aF), (aw, kcI cI 2179 g206), (aP, .inl (cB, 400, .inl ft))]) [1, 2, 0] rfl, hD.sub (ws' := [(h, oX11 th aw ai ab ac hi re aP ta x189 en x190 de fa a5 x205 av an ak ne aW aC ag aT aN aF), (aw, kcI cI 2179 g206), (aP, .inl (cB, 400, .inl ft))]) [1, 2, 0] (by decide) rfl, hS, lv_sub (l' := [(0, .ref h)]) hl [0] rfl⟩

def kwX11_readTag : List Cond := .code yX11_readTag cX11_readTag 2 (some .boolean) :: kG
theorem hdX11_readTag : yX11_readTag.cls ≠ "java/lang/invoke/MethodHandle" ∧ yX11_readTag.cls ≠ "java/lang/invoke/VarHandle" ∧ (parseMethodDescriptor yX11_readTag.desc).map (fun d => d.parameters.length) = some 0 := by decide +kernel
theorem gX11_readTag_X11_emits : GoodIn kG (wsV RX11 184 RX11 yX11_emits kwX11_emits) := gK w22_5 (gK w22_6 (gK w22_7 (gK w0_5 (gK w22_8 gGG))))
theorem gX11_readTag_X11_isWord : GoodIn kG (wsV RX11 114 RX11 yX11_isWord kwX11_isWord) := gK w19_7 (gK w19_8 (gK w19_9 (gK w0_5 (gK w19_10 gGG))))
theorem gX11_readTag_X11_letters : GoodIn kG (wsV RX11 111 RX11 yX11_letters kwX11_letters) := gK w18_23 (gK w19_0 (gK w19_1 (gK w0_5 (gK w19_2 gGG))))
theorem dX11_readTag_0 : decode cX11_readTag 0 = .ok (.aload_n 0, 1) := by decide +kernel
theorem dX11_readTag_1 : decode cX11_readTag 1 = .ok (.invokevirtual 111, 3) := by decide +kernel
theorem dX11_readTag_4 : decode cX11_readTag 4 = .ok (.aload_n 0, 1) := by decide +kernel
theorem dX11_readTag_5 : decode cX11_readTag 5 = .ok (.ldc 202, 2) := by decide +kernel
theorem dX11_readTag_7 : decode cX11_readTag 7 = .ok (.invokevirtual 114, 3) := by decide +kernel
theorem dX11_readTag_10 : decode cX11_readTag 10 = .ok (.ifCond .eq 8, 3) := by decide +kernel
theorem dX11_readTag_13 : decode cX11_readTag 13 = .ok (.bipush 9, 2) := by decide +kernel
theorem dX11_readTag_15 : decode cX11_readTag 15 = .ok (.goto 32, 3) := by decide +kernel
theorem dX11_readTag_18 : decode cX11_readTag 18 = .ok (.aload_n 0, 1) := by decide +kernel
theorem dX11_readTag_19 : decode cX11_readTag 19 = .ok (.ldc 204, 2) := by decide +kernel
theorem dX11_readTag_21 : decode cX11_readTag 21 = .ok (.invokevirtual 114, 3) := by decide +kernel
theorem dX11_readTag_24 : decode cX11_readTag 24 = .ok (.ifCond .eq 8, 3) := by decide +kernel
theorem dX11_readTag_27 : decode cX11_readTag 27 = .ok (.bipush 10, 2) := by decide +kernel
theorem dX11_readTag_29 : decode cX11_readTag 29 = .ok (.goto 18, 3) := by decide +kernel
theorem dX11_readTag_32 : decode cX11_readTag 32 = .ok (.aload_n 0, 1) := by decide +kernel
theorem dX11_readTag_33 : decode cX11_readTag 33 = .ok (.ldc 206, 2) := by decide +kernel
theorem dX11_readTag_35 : decode cX11_readTag 35 = .ok (.invokevirtual 114, 3) := by decide +kernel
theorem dX11_readTag_38 : decode cX11_readTag 38 = .ok (.ifCond .eq 8, 3) := by decide +kernel
theorem dX11_readTag_41 : decode cX11_readTag 41 = .ok (.bipush 11, 2) := by decide +kernel
theorem dX11_readTag_43 : decode cX11_readTag 43 = .ok (.goto 4, 3) := by decide +kernel
theorem dX11_readTag_46 : decode cX11_readTag 46 = .ok (.iconst (-1), 1) := by decide +kernel
theorem dX11_readTag_47 : decode cX11_readTag 47 = .ok (.istore_n 1, 1) := by decide +kernel
theorem dX11_readTag_48 : decode cX11_readTag 48 = .ok (.iload_n 1, 1) := by decide +kernel
theorem dX11_readTag_49 : decode cX11_readTag 49 = .ok (.ifCond .lt 12, 3) := by decide +kernel
theorem dX11_readTag_52 : decode cX11_readTag 52 = .ok (.aload_n 0, 1) := by decide +kernel
theorem dX11_readTag_53 : decode cX11_readTag 53 = .ok (.iload_n 1, 1) := by decide +kernel
theorem dX11_readTag_54 : decode cX11_readTag 54 = .ok (.iconst 0, 1) := by decide +kernel
theorem dX11_readTag_55 : decode cX11_readTag 55 = .ok (.invokevirtual 184, 3) := by decide +kernel
theorem dX11_readTag_58 : decode cX11_readTag 58 = .ok (.goto 11, 3) := by decide +kernel
theorem dX11_readTag_61 : decode cX11_readTag 61 = .ok (.aload_n 0, 1) := by decide +kernel
theorem dX11_readTag_62 : decode cX11_readTag 62 = .ok (.aload_n 0, 1) := by decide +kernel
theorem dX11_readTag_63 : decode cX11_readTag 63 = .ok (.getfield 96, 3) := by decide +kernel
theorem dX11_readTag_66 : decode cX11_readTag 66 = .ok (.putfield 86, 3) := by decide +kernel
theorem dX11_readTag_69 : decode cX11_readTag 69 = .ok (.iload_n 1, 1) := by decide +kernel
theorem dX11_readTag_70 : decode cX11_readTag 70 = .ok (.ifCond .lt 7, 3) := by decide +kernel
theorem dX11_readTag_73 : decode cX11_readTag 73 = .ok (.iconst 1, 1) := by decide +kernel
theorem dX11_readTag_74 : decode cX11_readTag 74 = .ok (.goto 4, 3) := by decide +kernel
theorem dX11_readTag_77 : decode cX11_readTag 77 = .ok (.iconst 0, 1) := by decide +kernel
theorem dX11_readTag_78 : decode cX11_readTag 78 = .ok (.ireturn, 1) := by decide +kernel
set_option maxHeartbeats 4000000 in
set_option maxRecDepth 100000 in
/-- reference: readTag -/
theorem r_readTag (l : Launch) (D : va_G) (cI cJ cB cC : ClassId) (h : Nat) (th : Int32) (aw : Nat) (ai : Nat) (ab : Nat) (ac : Nat) (hi : Int32) (re : Int32) (aP : Nat) (ta : Int32) (po : Int32) (en : Int32) (be : Int32) (de : Int32) (fa : Int32) (a5 : Nat) (sp : Int32) (av : Nat) (an : Nat) (ak : Nat) (ne : Int32) (aW : Nat) (aC : Nat) (ag : Nat) (aT : Nat) (aN : Nat) (aF : Nat) (fw : Nat → Int32) (ft : Nat → Int32) (sz : Nat) (H_po : Rg po 0 400) (H_en : Rg en 0 400) (H_sp : Rg sp 0 395) (H_fw_W : wW fw) (H_fw_B : wB fw) (H_fw_L : wL fw) (H_SP : (sp : Int32).toInt + 5 ≤ (po : Int32).toInt) : Met l yX11_readTag kwX11_readTag ({ frames := 5, cells := 0, slots := 0, locals := 108 } : Room) (kPre D (kT cI cJ cB cC) sz [(h, oX11 th aw ai ab ac hi re aP ta po en be de fa a5 sp av an ak ne aW aC ag aT aN aF), (aw, kcI cI 2179 fw), (aP, .inl (cB, 400, .inl ft))] [.ref h]) (va_Qi (fun (r : Int32) (uu : Int32 × Int32 × Int32 × (Nat → Int32)) => match uu with | (n0_, n1_, n2_, f3_) => Rg n0_ 0 400 ∧ Rg n1_ 0 400 ∧ Rg n2_ 0 400 ∧ wB f3_ ∧ wL f3_ ∧ wW f3_ ∧ F_r_readTag (po : Int32).toInt (en : Int32).toInt (sp : Int32).toInt (gT fw) (gT ft) = ((r : Int32).toInt, (n0_ : Int32).toInt, (n1_ : Int32).toInt, (n2_ : Int32).toInt, (gT f3_)) ∧ ((r = 0 ∧ rOk fw f3_ sp n2_ po n0_ 0) ∨ (r = 1 ∧ rOk fw f3_ sp n2_ po n0_ 1))) (fun (uu : Int32 × Int32 × Int32 × (Nat → Int32)) (t : State) => match uu with | (n0_, n1_, n2_, f3_) => kB D (kT cI cJ cB cC) (va_A [(h, oX11 th aw ai ab ac hi re aP ta po en be de fa a5 sp av an ak ne aW aC ag aT aN aF), (aw, kcI cI 2179 fw), (aP, .inl (cB, 400, .inl ft))] sz) [(h, oX11 th aw ai ab ac hi re aP ta n0_ en n1_ de fa a5 n2_ av an ak ne aW aC ag aT aN aF), (aw, kcI cI 2179 f3_), (aP, .inl (cB, 400, .inl ft))] t) (va_A [(h, oX11 th aw ai ab ac hi re aP ta po en be de fa a5 sp av an ak ne aW aC ag aT aN aF), (aw, kcI cI 2179 fw), (aP, .inl (cB, 400, .inl ft))] sz)) 0 0 (va_A [(h, oX11 th aw ai ab ac hi re aP ta po en be de fa a5 sp av an ak ne aW aC ag aT aN aF), (aw, kcI cI 2179 fw), (aP, .inl (cB, 400, .inl ft))] sz) := by
  refine Met.ofW (cc := cX11_readTag) (maxL := 2) (ret := (some .boolean)) (by decide) rfl ?_
  intro p e s m args below meth c s₁ B hml hv
  obtain ⟨rfl, hsz, hN, hE, hP, hK, hD0⟩ := hv
  have hx := B.exec
  have hb := B.bytes
  have hr := B.returns
  have hts := fun (w : Cond) (h : w ∈ kG) => atoms_spec (ws := kwX11_readTag) B.pre w (List.mem_cons_of_mem _ h)
  have hown : s.vm.findClass RX11 = some m.cls := findClass_of_methodNamed B.named
  subst hsz
  have hD := hD0.self (sz := s.heap.size)
  generalize hAe : va_A [(h, oX11 th aw ai ab ac hi re aP ta po en be de fa a5 sp av an ak ne aW aC ag aT aN aF), (aw, kcI cI 2179 fw), (aP, .inl (cB, 400, .inl ft))] s.heap.size = A at hD hE ⊢
  have hA : ∀ q : Nat, s.heap.size ≤ q → A q := fun q h => by rw [← hAe]; exact Or.inr h
  have hl := lv_entry ([.ref h]) (n := 2) (Nat.le_of_ble_eq_true rfl)
  rw [lg_entry_eq]
  generalize (lg_sl ([.ref h]) ++ List.replicate (2 - (lg_sl ([.ref h])).length) Slot.unset).toArray = ls at hl ⊢
  have hl : lv_has ls 2 [(0, .ref h)] := hl
  obtain ⟨H, hH0⟩ : ∃ H, H = s.heap := ⟨_, rfl⟩
  have hS : va_S A s.heap H [] := by rw [hH0]; exact va_S.rf
  have hP : va_P D vwCl [(h, oX11 th aw ai ab ac hi re aP ta po en be de fa a5 sp av an ak ne aW aC ag aT aN aF), (aw, kcI cI 2179 fw), (aP, .inl (cB, 400, .inl ft))] H := by rw [hH0]; exact hP
  refine kHeap hH0 ?_
  clear hH0
  refine lv_aload_n hx hb dX11_readTag_0 rfl (lv_at hl 0 rfl) ?_
  refine kcallv (wc := [(h, oX11 th aw ai ab ac hi re aP ta po en be de fa a5 sp av an ak ne aW aC ag aT aN aF), (aP, .inl (cB, 400, .inl ft))]) (wr := [(aw, kcI cI 2179 fw)]) hP hD hS hA [0, 2] [1] rfl rfl (by decide) (by decide) (by decide) (fun hPc hDc hFc => va_runV (As := []) (rest := []) ⟨hx, hb, hml, hown, hts⟩ (r_letters l D cI cJ cB cC h th aw ai ab ac hi re aP ta po en be de fa a5 sp av an ak ne aW aC ag aT aN aF ft H.size H_po H_en) (cwV 0 hts gX11_readTag_X11_letters rfl rfl rfl ⟨rfl, hdX11_letters⟩ ⟨Nat.le_of_ble_eq_true rfl, Nat.le_of_ble_eq_true rfl⟩) ⟨kBlind, va_recv hK hPc (ci := 10) (q0 := 0) rfl rfl, fun U hU hW => ⟨rfl, by rw [hU], hN.warm hW, hE.pass hS hFc hW hU, by rw [hU]; exact hPc, va_K.moved hW.alike hK, hDc⟩⟩ rfl rfl hl.1 rfl (lv_room (Nat.le_of_ble_eq_true rfl)) dX11_readTag_1 ⟨Nat.le_of_ble_eq_true rfl, Nat.le_of_ble_eq_true rfl⟩) (fun u H locs hw hP hD hS => ?_)
  obtain ⟨x1, x2⟩ := u
  have hP : va_P D vwCl [(aw, kcI cI 2179 fw), (h, oX11 th aw ai ab ac hi re aP ta x1 en x2 de fa a5 sp av an ak ne aW aC ag aT aN aF), (aP, .inl (cB, 400, .inl ft))] H := hP
  have hD : va_D A [(aw, kcI cI 2179 fw), (h, oX11 th aw ai ab ac hi re aP ta x1 en x2 de fa a5 sp av an ak ne aW aC ag aT aN aF), (aP, .inl (cB, 400, .inl ft))] := hD
  obtain ⟨k3, k4, k5, k6, k7⟩ := hw
  refine lv_aload_n hx hb dX11_readTag_4 rfl (lv_at hl 0 rfl) ?_
  obtain ⟨q8, q9, hR10, hT11⟩ := kTx_20 hE.2.2
  refine va_ldcS hx hb hown hR10 dX11_readTag_5 ?_
  refine kpurei (wc := [(h, oX11 th aw ai ab ac hi re aP ta x1 en x2 de fa a5 sp av an ak ne aW aC ag aT aN aF), (aP, .inl (cB, 400, .inl ft))]) hP hD hS hA [1, 2] rfl (by decide) (fun hPc hDc hFc => va_runV (As := [.ref q8]) (rest := []) ⟨hx, hb, hml, hown, hts⟩ (r_isWord l D cI cJ cB cC h th aw ai ab ac hi re aP ta x1 en x2 de fa a5 sp av an ak ne aW aC ag aT aN aF ft q8 kSb20 q9 H.size k3 H_en k4 kSb20_le) (cwV 1 hts gX11_readTag_X11_isWord rfl rfl rfl ⟨rfl, hdX11_isWord⟩ ⟨Nat.le_of_ble_eq_true rfl, Nat.le_of_ble_eq_true rfl⟩) ⟨kBlindT, va_recv hK hPc (ci := 10) (q0 := 0) rfl rfl, fun U hU hW => ⟨rfl, by rw [hU], hN.warm hW, hE.pass hS hFc hW hU, hT11.pass hS hFc hW hU, by rw [hU]; exact hPc, va_K.moved hW.alike hK, hDc⟩⟩ rfl rfl hl.1 rfl (lv_room (Nat.le_of_ble_eq_true rfl)) dX11_readTag_7 ⟨Nat.le_of_ble_eq_true rfl, Nat.le_of_ble_eq_true rfl⟩) (fun r12 u H locs hw hP hS => ?_)
  obtain ⟨k13, k14, k15⟩ := hw
  refine lv_if_eq (tgt := 18) hx hb dX11_readTag_10 (by decide) (fun c41 => ?_) (fun c41 => ?_)
  · skip
    have k42 : Rg r12 0 0 := rg_q1 (eqI c41) k13 (rg_lit (n := 0) (by decide)) (by decide)
    refine lv_aload_n hx hb dX11_readTag_18 rfl (lv_at hl 0 rfl) ?_
    obtain ⟨q43, q44, hR45, hT46⟩ := kTx_21 hE.2.2
    refine va_ldcS hx hb hown hR45 dX11_readTag_19 ?_
    refine kpurei (wc := [(h, oX11 th aw ai ab ac hi re aP ta x1 en x2 de fa a5 sp av an ak ne aW aC ag aT aN aF), (aP, .inl (cB, 400, .inl ft))]) hP hD hS hA [1, 2] rfl (by decide) (fun hPc hDc hFc => va_runV (As := [.ref q43]) (rest := []) ⟨hx, hb, hml, hown, hts⟩ (r_isWord l D cI cJ cB cC h th aw ai ab ac hi re aP ta x1 en x2 de fa a5 sp av an ak ne aW aC ag aT aN aF ft q43 kSb21 q44 H.size k3 H_en k4 kSb21_le) (cwV 1 hts gX11_readTag_X11_isWord rfl rfl rfl ⟨rfl, hdX11_isWord⟩ ⟨Nat.le_of_ble_eq_true rfl, Nat.le_of_ble_eq_true rfl⟩) ⟨kBlindT, va_recv hK hPc (ci := 10) (q0 := 0) rfl rfl, fun U hU hW => ⟨rfl, by rw [hU], hN.warm hW, hE.pass hS hFc hW hU, hT46.pass hS hFc hW hU, by rw [hU]; exact hPc, va_K.moved hW.alike hK, hDc⟩⟩ rfl rfl hl.1 rfl (lv_room (Nat.le_of_ble_eq_true rfl)) dX11_readTag_21 ⟨Nat.le_of_ble_eq_true rfl, Nat.le_of_ble_eq_true rfl⟩) (fun r47 u H locs hw hP hS => ?_)
    obtain ⟨k48, k49, k50⟩ := hw
    refine lv_if_eq (tgt := 32) hx hb dX11_readTag_24 (by decide) (fun c51 => ?_) (fun c51 => ?_)
    · skip
      have k52 : Rg r47 0 0 := rg_q1 (eqI c51) k48 (rg_lit (n := 0) (by decide)) (by decide)
      refine lv_aload_n hx hb dX11_readTag_32 rfl (lv_at hl 0 rfl) ?_
      obtain ⟨q53, q54, hR55, hT56⟩ := kTx_22 hE.2.2
      refine va_ldcS hx hb hown hR55 dX11_readTag_33 ?_
      refine kpurei (wc := [(h, oX11 th aw ai ab ac hi re aP ta x1 en x2 de fa a5 sp av an ak ne aW aC ag aT aN aF), (aP, .inl (cB, 400, .inl ft))]) hP hD hS hA [1, 2] rfl (by decide) (fun hPc hDc hFc => va_runV (As := [.ref q53]) (rest := []) ⟨hx, hb, hml, hown, hts⟩ (r_isWord l D cI cJ cB cC h th aw ai ab ac hi re aP ta x1 en x2 de fa a5 sp av an ak ne aW aC ag aT aN aF ft q53 kSb22 q54 H.size k3 H_en k4 kSb22_le) (cwV 1 hts gX11_readTag_X11_isWord rfl rfl rfl ⟨rfl, hdX11_isWord⟩ ⟨Nat.le_of_ble_eq_true rfl, Nat.le_of_ble_eq_true rfl⟩) ⟨kBlindT, va_recv hK hPc (ci := 10) (q0 := 0) rfl rfl, fun U hU hW => ⟨rfl, by rw [hU], hN.warm hW, hE.pass hS hFc hW hU, hT56.pass hS hFc hW hU, by rw [hU]; exact hPc, va_K.moved hW.alike hK, hDc⟩⟩ rfl rfl hl.1 rfl (lv_room (Nat.le_of_ble_eq_true rfl)) dX11_readTag_35 ⟨Nat.le_of_ble_eq_true rfl, Nat.le_of_ble_eq_true rfl⟩) (fun r57 u H locs hw hP hS => ?_)
      obtain ⟨k58, k59, k60⟩ := hw
      refine lv_if_eq (tgt := 46) hx hb dX11_readTag_38 (by decide) (fun c61 => ?_) (fun c61 => ?_)
      · skip
        have k62 : Rg r57 0 0 := rg_q1 (eqI c61) k58 (rg_lit (n := 0) (by decide)) (by decide)
        refine lv_iconst (v := (-1)) hx hb dX11_readTag_46 (by decide) ?_
        refine lv_istore_n (lv' := [(1, .int (-1)), (0, .ref h)]) hx hb dX11_readTag_47 rfl hl (by decide) rfl (fun ls hl => ?_)
        refine lv_iload_n hx hb dX11_readTag_48 rfl (lv_at hl 0 rfl) ?_
        refine lv_if_lt (tgt := 61) hx hb dX11_readTag_49 (by decide) (fun _ => ?_) (fun c64 => absurd (by decide) c64)
        refine lv_aload_n hx hb dX11_readTag_61 rfl (lv_at hl 1 rfl) ?_
        refine lv_aload_n hx hb dX11_readTag_62 rfl (lv_at hl 1 rfl) ?_
        refine va_get (D := D) (ci := 10) (v := .int x2) (C := RX11) (T := TX11) (N := 26) hx hb hts iG_X11 hown hK hP 1 rfl rfl 11 (by decide) (hts _ w17_22) (fun _ h9 => h9) rfl dX11_readTag_63 ?_
        refine va_put (D := D) (ci := 10) (v := .int x2) (ty := .int) (C := RX11) (T := TX11) (N := 26) hx hb hts iG_X11 tyX11 tyX11_ok nmX11 hown hK hP hD hS 1 rfl rfl 9 (by decide) (hts _ w18_5) (fun _ h9 => h9) rfl (by decide +kernel) rfl rfl (Nat.le_of_ble_eq_true rfl) dX11_readTag_66 (fun H locs hP hD hS => ?_)
        have hP : va_P D vwCl [(aw, kcI cI 2179 fw), (h, oX11 th aw ai ab ac hi re aP ta x2 en x2 de fa a5 sp av an ak ne aW aC ag aT aN aF), (aP, .inl (cB, 400, .inl ft))] H := hP
        have hD : va_D A [(aw, kcI cI 2179 fw), (h, oX11 th aw ai ab ac hi re aP ta x2 en x2 de fa a5 sp av an ak ne aW aC ag aT aN aF), (aP, .inl (cB, 400, .inl ft))] := hD
        refine lv_iload_n hx hb dX11_readTag_69 rfl (lv_at hl 0 rfl) ?_
        refine lv_if_lt (tgt := 77) hx hb dX11_readTag_70 (by decide) (fun _ => ?_) (fun c66 => absurd (by decide) c66)
        refine lv_iconst (v := 0) hx hb dX11_readTag_77 (by decide) ?_
        have hP9 := hP.sub (ws' := [(h, oX11 th aw ai ab ac hi re aP ta x2 en x2 de fa a5 sp av an ak ne aW aC ag aT aN aF), (aw, kcI cI 2179 fw), (aP, .inl (cB, 400, .inl ft))]) [1, 0, 2] rfl
        have hD9 := hD.sub (ws' := [(h, oX11 th aw ai ab ac hi re aP ta x2 en x2 de fa a5 sp av an ak ne aW aC ag aT aN aF), (aw, kcI cI 2179 fw), (aP, .inl (cB, 400, .inl ft))]) [1, 0, 2] (by decide) rfl
        exact W.zret (v := 0) hx hb hr (by decide) (fun t ht hW => ⟨⟨0, (x2, x2, sp, fw), rfl, ⟨k4, k4, (rg_w H_sp (by decide)), H_fw_B, H_fw_L, H_fw_W, (kC_eq k7 (kLet_eq (k15).symm (kif_t (eqI c41) (kLet_eq (k50).symm (kif_t (eqI c51) (kLet_eq (k60).symm (kif_t (eqI c61) rfl))))))), (Or.inl ⟨rfl, (rOk_0 (by have q1 := H_sp; unfold Rg at q1; omega) (by have q0 := H_SP; have q1 := k5; have q3 := k6; have q5 := k14; have q7 := (eqI c41); have q9 := k49; have q10 := (eqI c51); have q12 := k59; have q13 := (eqI c61); have q14 : (0 : Int32).toInt = 0 := (by decide); have q15 : (1 : Int32).toInt = 1 := (by decide); have q16 : ((nI kSb20.length) : Int32).toInt = 4 := (by decide); have q17 : ((nI kSb21.length) : Int32).toInt = 9 := (by decide); have q18 : ((nI kSb22.length) : Int32).toInt = 6 := (by decide); unfold Rg at *; omega))⟩)⟩, by rw [ht]; exact hP9, va_K.moved hW.alike hK, hD9⟩, hS.F ht⟩) hS.2.2 dX11_readTag_78
      · skip
        have k67 : Rg r57 1 1 := rg_n1 (neI c61) k58 (rg_lit (n := 0) (by decide)) (by decide)
        refine lv_bipush (v := 11) hx hb dX11_readTag_41 (by decide) ?_
        refine lv_goto (tgt := 47) hx hb dX11_readTag_43 (by decide) ?_
        refine lv_istore_n (lv' := [(1, .int 11), (0, .ref h)]) hx hb dX11_readTag_47 rfl hl (by decide) rfl (fun ls hl => ?_)
        refine lv_iload_n hx hb dX11_readTag_48 rfl (lv_at hl 0 rfl) ?_
        refine lv_if_lt (tgt := 61) hx hb dX11_readTag_49 (by decide) (fun c77 => absurd c77 (by decide)) (fun _ => ?_)
        refine lv_aload_n hx hb dX11_readTag_52 rfl (lv_at hl 1 rfl) ?_
        refine lv_iload_n hx hb dX11_readTag_53 rfl (lv_at hl 0 rfl) ?_
        refine lv_iconst (v := 0) hx hb dX11_readTag_54 (by decide) ?_
        refine kcallv (wc := [(h, oX11 th aw ai ab ac hi re aP ta x1 en x2 de fa a5 sp av an ak ne aW aC ag aT aN aF), (aw, kcI cI 2179 fw)]) (wr := [(aP, .inl (cB, 400, .inl ft))]) hP hD hS hA [1, 0] [2] rfl rfl (by decide) (by decide) (by decide) (fun hPc hDc hFc => va_runV (As := [.int 11, .int 0]) (rest := []) ⟨hx, hb, hml, hown, hts⟩ (r_emits l D cI cJ cB cC h th aw ai ab ac hi re aP ta x1 en x2 de fa a5 sp av an ak ne aW aC ag aT aN aF fw 11 0 H.size (rg_w H_sp (by decide)) H_fw_W H_fw_B H_fw_L) (cwV 2 hts gX11_readTag_X11_emits rfl rfl rfl ⟨rfl, hdX11_emits⟩ ⟨Nat.le_of_ble_eq_true rfl, Nat.le_of_ble_eq_true rfl⟩) ⟨kBlind, va_recv hK hPc (ci := 10) (q0 := 0) rfl rfl, fun U hU hW => ⟨rfl, by rw [hU], hN.warm hW, hE.pass hS hFc hW hU, by rw [hU]; exact hPc, va_K.moved hW.alike hK, hDc⟩⟩ rfl rfl hl.1 rfl (lv_room (Nat.le_of_ble_eq_true rfl)) dX11_readTag_55 ⟨Nat.le_of_ble_eq_true rfl, Nat.le_of_ble_eq_true rfl⟩) (fun u H locs hw hP hD hS => ?_)
        obtain ⟨x78, g79⟩ := u
        have hP : va_P D vwCl [(aP, .inl (cB, 400, .inl ft)), (h, oX11 th aw ai ab ac hi re aP ta x1 en x2 de fa a5 x78 av an ak ne aW aC ag aT aN aF), (aw, kcI cI 2179 g79)] H := hP
        have hD : va_D A [(aP, .inl (cB, 400, .inl ft)), (h, oX11 th aw ai ab ac hi re aP ta x1 en x2 de fa a5 x78 av an ak ne aW aC ag aT aN aF), (aw, kcI cI 2179 g79)] := hD
        obtain ⟨k80, k81, k82, k83, k84, k85⟩ := hw
        refine lv_goto (tgt := 69) hx hb dX11_readTag_58 (by decide) ?_
        refine lv_iload_n hx hb dX11_readTag_69 rfl (lv_at hl 0 rfl) ?_
        refine lv_if_lt (tgt := 77) hx hb dX11_readTag_70 (by decide) (fun c87 => absurd c87 (by decide)) (fun _ => ?_)
        refine lv_iconst (v := 1) hx hb dX11_readTag_73 (by decide) ?_
        refine lv_goto (tgt := 78) hx hb dX11_readTag_74 (by decide) ?_
        have hP9 := hP.sub (ws' := [(h, oX11 th aw ai ab ac hi re aP ta x1 en x2 de fa a5 x78 av an ak ne aW aC ag aT aN aF), (aw, kcI cI 2179 g79), (aP, .inl (cB, 400, .inl ft))]) [1, 2, 0] rfl
        have hD9 := hD.sub (ws' := [(h, oX11 th aw ai ab ac hi re aP ta x1 en x2 de fa a5 x78 av an ak ne aW aC ag aT aN aF), (aw, kcI cI 2179 g79), (aP, .inl (cB, 400, .inl ft))]) [1, 2, 0] (by decide) rfl
        exact W.zret (v := 1) hx hb hr (by decide) (fun t ht hW => ⟨⟨1, (x1, x2, x78, g79), rfl, ⟨k3, k4, (rg_w k80 (by decide)), k81, k82, k83, (kC_eq k7 (kLet_eq (k15).symm (kif_t (eqI c41) (kLet_eq (k50).symm (kif_t (eqI c51) (kLet_eq (k60).symm (kif_f (neI c61) (kC_eq k85 rfl)))))))), (Or.inr ⟨rfl, (rOk_part k84 (by decide) (by have q0 := H_SP; have q1 := k5; have q3 := k6; have q5 := k14; have q7 := (eqI c41); have q9 := k49; have q10 := (eqI c51); have q12 := k59; have q14 := neI c61; have q15 := neI (Ne.symm c61); obtain ⟨-, -, u16, -⟩ := k84; have q18 : (0 : Int32).toInt = 0 := (by decide); have q19 : (1 : Int32).toInt = 1 := (by decide); have q20 : ((nI kSb20.length) : Int32).toInt = 4 := (by decide); have q21 : ((nI kSb21.length) : Int32).toInt = 9 := (by decide); have q22 : ((nI kSb22.length) : Int32).toInt = 6 := (by decide); unfold Rg at *; omega))⟩)⟩, by rw [ht]; exact hP9, va_K.moved hW.alike hK, hD9⟩, hS.F ht⟩) hS.2.2 dX11_readTag_78
    · skip
      have k88 : Rg r47 1 1 := rg_n1 (neI c51) k48 (rg_lit (n := 0) (by decide)) (by decide)
      refine lv_bipush (v := 10) hx hb dX11_readTag_27 (by decide) ?_
      refine lv_goto (tgt := 47) hx hb dX11_readTag_29 (by decide) ?_
      refine lv_istore_n (lv' := [(1, .int 10), (0, .ref h)]) hx hb dX11_readTag_47 rfl hl (by decide) rfl (fun ls hl => ?_)
      refine lv_iload_n hx hb dX11_readTag_48 rfl (lv_at hl 0 rfl) ?_
      refine lv_if_lt (tgt := 61) hx hb dX11_readTag_49 (by decide) (fun c98 => absurd c98 (by decide)) (fun _ => ?_)
      refine lv_aload_n hx hb dX11_readTag_52 rfl (lv_at hl 1 rfl) ?_
      refine lv_iload_n hx hb dX11_readTag_53 rfl (lv_at hl 0 rfl) ?_
      refine lv_iconst (v := 0) hx hb dX11_readTag_54 (by decide) ?_
      refine kcallv (wc := [(h, oX11 th aw ai ab ac hi re aP ta x1 en x2 de fa a5 sp av an ak ne aW aC ag aT aN aF), (aw, kcI cI 2179 fw)]) (wr := [(aP, .inl (cB, 400, .inl ft))]) hP hD hS hA [1, 0] [2] rfl rfl (by decide) (by decide) (by decide) (fun hPc hDc hFc => va_runV (As := [.int 10, .int 0]) (rest := []) ⟨hx, hb, hml, hown, hts⟩ (r_emits l D cI cJ cB cC h th aw ai ab ac hi re aP ta x1 en x2 de fa a5 sp av an ak ne aW aC ag aT aN aF fw 10 0 H.size (rg_w H_sp (by decide)) H_fw_W H_fw_B H_fw_L) (cwV 2 hts gX11_readTag_X11_emits rfl rfl rfl ⟨rfl, hdX11_emits⟩ ⟨Nat.le_of_ble_eq_true rfl, Nat.le_of_ble_eq_true rfl⟩) ⟨kBlind, va_recv hK hPc (ci := 10) (q0 := 0) rfl rfl, fun U hU hW => ⟨rfl, by rw [hU], hN.warm hW, hE.pass hS hFc hW hU, by rw [hU]; exact hPc, va_K.moved hW.alike hK, hDc⟩⟩ rfl rfl hl.1 rfl (lv_room (Nat.le_of_ble_eq_true rfl)) dX11_readTag_55 ⟨Nat.le_of_ble_eq_true rfl, Nat.le_of_ble_eq_true rfl⟩) (fun u H locs hw hP hD hS => ?_)
      obtain ⟨x99, g100⟩ := u
      have hP : va_P D vwCl [(aP, .inl (cB, 400, .inl ft)), (h, oX11 th aw ai ab ac hi re aP ta x1 en x2 de fa a5 x99 av an ak ne aW aC ag aT aN aF), (aw, kcI cI 2179 g100)] H := hP
      have hD : va_D A [(aP, .inl (cB, 400, .inl ft)), (h, oX11 th aw ai ab ac hi re aP ta x1 en x2 de fa a5 x99 av an ak ne aW aC ag aT aN aF), (aw, kcI cI 2179 g100)] := hD
      obtain ⟨k101, k102, k103, k104, k105, k106⟩ := hw
      refine lv_goto (tgt := 69) hx hb dX11_readTag_58 (by decide) ?_
      refine lv_iload_n hx hb dX11_readTag_69 rfl (lv_at hl 0 rfl) ?_
      refine lv_if_lt (tgt := 77) hx hb dX11_readTag_70 (by decide) (fun c108 => absurd c108 (by decide)) (fun _ => ?_)
      refine lv_iconst (v := 1) hx hb dX11_readTag_73 (by decide) ?_
      refine lv_goto (tgt := 78) hx hb dX11_readTag_74 (by decide) ?_
      have hP9 := hP.sub (ws' := [(h, oX11 th aw ai ab ac hi re aP ta x1 en x2 de fa a5 x99 av an ak ne aW aC ag aT aN aF), (aw, kcI cI 2179 g100), (aP, .inl (cB, 400, .inl ft))]) [1, 2, 0] rfl
      have hD9 := hD.sub (ws' := [(h, oX11 th aw ai ab ac hi re aP ta x1 en x2 de fa a5 x99 av an ak ne aW aC ag aT aN aF), (aw, kcI cI 2179 g100), (aP, .inl (cB, 400, .inl ft))]) [1, 2, 0] (by decide) rfl
      exact W.zret (v := 1) hx hb hr (by decide) (fun t ht hW => ⟨⟨1, (x1, x2, x99, g100), rfl, ⟨k3, k4, (rg_w k101 (by decide)), k102, k103, k104, (kC_eq k7 (kLet_eq (k15).symm (kif_t (eqI c41) (kLet_eq (k50).symm (kif_f (neI c51) (kC_eq k106 rfl)))))), (Or.inr ⟨rfl, (rOk_part k105 (by decide) (by have q0 := H_SP; have q1 := k5; have q3 := k6; have q5 := k14; have q7 := (eqI c41); have q9 := k49; have q11 := neI c51; have q12 := neI (Ne.symm c51); obtain ⟨-, -, u13, -⟩ := k105; have q15 : (0 : Int32).toInt = 0 := (by decide); have q16 : (1 : Int32).toInt = 1 := (by decide); have q17 : ((nI kSb20.length) : Int32).toInt = 4 := (by decide); have q18 : ((nI kSb21.length) : Int32).toInt = 9 := (by decide); unfold Rg at *; omega))⟩)⟩, by rw [ht]; exact hP9, va_K.moved hW.alike hK, hD9⟩, hS.F ht⟩) hS.2.2 dX11_readTag_78
  · skip
    have k109 : Rg r12 1 1 := rg_n1 (neI c41) k13 (rg_lit (n := 0) (by decide)) (by decide)
    refine lv_bipush (v := 9) hx hb dX11_readTag_13 (by decide) ?_
    refine lv_goto (tgt := 47) hx hb dX11_readTag_15 (by decide) ?_
    refine lv_istore_n (lv' := [(1, .int 9), (0, .ref h)]) hx hb dX11_readTag_47 rfl hl (by decide) rfl (fun ls hl => ?_)
    refine lv_iload_n hx hb dX11_readTag_48 rfl (lv_at hl 0 rfl) ?_
    refine lv_if_lt (tgt := 61) hx hb dX11_readTag_49 (by decide) (fun c119 => absurd c119 (by decide)) (fun _ => ?_)
    refine lv_aload_n hx hb dX11_readTag_52 rfl (lv_at hl 1 rfl) ?_
    refine lv_iload_n hx hb dX11_readTag_53 rfl (lv_at hl 0 rfl) ?_
    refine lv_iconst (v := 0) hx hb dX11_readTag_54 (by decide) ?_
    refine kcallv (wc := [(h, oX11 th aw ai ab ac hi re aP ta x1 en x2 de fa a5 sp av an ak ne aW aC ag aT aN aF), (aw, kcI cI 2179 fw)]) (wr := [(aP, .inl (cB, 400, .inl ft))]) hP hD hS hA [1, 0] [2] rfl rfl (by decide) (by decide) (by decide) (fun hPc hDc hFc => va_runV (As := [.int 9, .int 0]) (rest := []) ⟨hx, hb, hml, hown, hts⟩ (r_emits l D cI cJ cB cC h th aw ai ab ac hi re aP ta x1 en x2 de fa a5 sp av an ak ne aW aC ag aT aN aF fw 9 0 H.size (rg_w H_sp (by decide)) H_fw_W H_fw_B H_fw_L) (cwV 2 hts gX11_readTag_X11_emits rfl rfl rfl ⟨rfl, hdX11_emits⟩ ⟨Nat.le_of_ble_eq_true rfl, Nat.le_of_ble_eq_true rfl⟩) ⟨kBlind, va_recv hK hPc (ci := 10) (q0 := 0) rfl rfl, fun U hU hW => ⟨rfl, by rw [hU], hN.warm hW, hE.pass hS hFc hW hU, by rw [hU]; exact hPc, va_K.moved hW.alike hK, hDc⟩⟩ rfl rfl hl.1 rfl (lv_room (Nat.le_of_ble_eq_true rfl)) dX11_readTag_55 ⟨Nat.le_of_ble_eq_true rfl, Nat.le_of_ble_eq_true rfl⟩) (fun u H locs hw hP hD hS => ?_)
    obtain ⟨x120, g121⟩ := u
    have hP : va_P D vwCl [(aP, .inl (cB, 400, .inl ft)), (h, oX11 th aw ai ab ac hi re aP ta x1 en x2 de fa a5 x120 av an ak ne aW aC ag aT aN aF), (aw, kcI cI 2179 g121)] H := hP
    have hD : va_D A [(aP, .inl (cB, 400, .inl ft)), (h, oX11 th aw ai ab ac hi re aP ta x1 en x2 de fa a5 x120 av an ak ne aW aC ag aT aN aF), (aw, kcI cI 2179 g121)] := hD
    obtain ⟨k122, k123, k124, k125, k126, k127⟩ := hw
    refine lv_goto (tgt := 69) hx hb dX11_readTag_58 (by decide) ?_
    refine lv_iload_n hx hb dX11_readTag_69 rfl (lv_at hl 0 rfl) ?_
    refine lv_if_lt (tgt := 77) hx hb dX11_readTag_70 (by decide) (fun c129 => absurd c129 (by decide)) (fun _ => ?_)
    refine lv_iconst (v := 1) hx hb dX11_readTag_73 (by decide) ?_
    refine lv_goto (tgt := 78) hx hb dX11_readTag_74 (by decide) ?_
    have hP9 := hP.sub (ws' := [(h, oX11 th aw ai ab ac hi re aP ta x1 en x2 de fa a5 x120 av an ak ne aW aC ag aT aN aF), (aw, kcI cI 2179 g121), (aP, .inl (cB, 400, .inl ft))]) [1, 2, 0] rfl
    have hD9 := hD.sub (ws' := [(h, oX11 th aw ai ab ac hi re aP ta x1 en x2 de fa a5 x120 av an ak ne aW aC ag aT aN aF), (aw, kcI cI 2179 g121), (aP, .inl (cB, 400, .inl ft))]) [1, 2, 0] (by decide) rfl
    exact W.zret (v := 1) hx hb hr (by decide) (fun t ht hW => ⟨⟨1, (x1, x2, x120, g121), rfl, ⟨k3, k4, (rg_w k122 (by decide)), k123, k124, k125, (kC_eq k7 (kLet_eq (k15).symm (kif_f (neI c41) (kC_eq k127 rfl)))), (Or.inr ⟨rfl, (rOk_part k126 (by decide) (by have q0 := H_SP; have q1 := k5; have q3 := k6; have q5 := k14; have q8 := neI c41; have q9 := neI (Ne.symm c41); obtain ⟨-, -, u10, -⟩ := k126; have q12 : (0 : Int32).toInt = 0 := (by decide); have q13 : (1 : Int32).toInt = 1 := (by decide); have q14 : ((nI kSb20.length) : Int32).toInt = 4 := (by decide); unfold Rg at *; omega))⟩)⟩, by rw [ht]; exact hP9, va_K.moved hW.alike hK, hD9⟩, hS.F ht⟩) hS.2.2 dX11_readTag_78

def kwX11_readAtom : List Cond := .code yX11_readAtom cX11_readAtom 2 (some .boolean) :: kG
theorem hdX11_readAtom : yX11_readAtom.cls ≠ "java/lang/invoke/MethodHandle" ∧ yX11_readAtom.cls ≠ "java/lang/invoke/VarHandle" ∧ (parseMethodDescriptor yX11_readAtom.desc).map (fun d => d.parameters.length) = some 0 := by decide +kernel
theorem gX11_readAtom_X11_emits : GoodIn kG (wsV RX11 184 RX11 yX11_emits kwX11_emits) := gK w22_5 (gK w22_6 (gK w22_7 (gK w0_5 (gK w22_8 gGG))))
theorem gX11_readAtom_X11_passes : GoodIn kG (wsV RX11 216 RX11 yX11_passes kwX11_passes) := gK w21_18 (gK w21_19 (gK w21_20 (gK w0_5 (gK w21_21 gGG))))
theorem gX11_readAtom_X11_readSum : GoodIn kG (wsV RX11 225 RX11 yX11_readSum kwX11_readSum) := gK w22_22 (gK w22_23 (gK w23_0 (gK w0_5 (gK w23_1 gGG))))
theorem gX11_readAtom_X11_readTag : GoodIn kG (wsV RX11 222 RX11 yX11_readTag kwX11_readTag) := gK w22_18 (gK w22_19 (gK w22_20 (gK w0_5 (gK w22_21 gGG))))
theorem gX11_readAtom_X11_sign : GoodIn kG (wsV RX11 198 RX11 yX11_sign kwX11_sign) := gK w22_14 (gK w22_15 (gK w22_16 (gK w0_5 (gK w22_17 gGG))))
theorem dX11_readAtom_0 : decode cX11_readAtom 0 = .ok (.aload_n 0, 1) := by decide +kernel
theorem dX11_readAtom_1 : decode cX11_readAtom 1 = .ok (.bipush 40, 2) := by decide +kernel
theorem dX11_readAtom_3 : decode cX11_readAtom 3 = .ok (.invokevirtual 198, 3) := by decide +kernel
theorem dX11_readAtom_6 : decode cX11_readAtom 6 = .ok (.ifCond .eq 50, 3) := by decide +kernel
theorem dX11_readAtom_9 : decode cX11_readAtom 9 = .ok (.aload_n 0, 1) := by decide +kernel
theorem dX11_readAtom_10 : decode cX11_readAtom 10 = .ok (.getfield 208, 3) := by decide +kernel
theorem dX11_readAtom_13 : decode cX11_readAtom 13 = .ok (.bipush 6, 2) := by decide +kernel
theorem dX11_readAtom_15 : decode cX11_readAtom 15 = .ok (.if_icmp .ne 5, 3) := by decide +kernel
theorem dX11_readAtom_18 : decode cX11_readAtom 18 = .ok (.iconst 0, 1) := by decide +kernel
theorem dX11_readAtom_19 : decode cX11_readAtom 19 = .ok (.ireturn, 1) := by decide +kernel
theorem dX11_readAtom_56 : decode cX11_readAtom 56 = .ok (.aload_n 0, 1) := by decide +kernel
theorem dX11_readAtom_57 : decode cX11_readAtom 57 = .ok (.ldc 214, 2) := by decide +kernel
theorem dX11_readAtom_59 : decode cX11_readAtom 59 = .ok (.invokevirtual 216, 3) := by decide +kernel
theorem dX11_readAtom_62 : decode cX11_readAtom 62 = .ok (.ifCond .eq 52, 3) := by decide +kernel
theorem dX11_readAtom_65 : decode cX11_readAtom 65 = .ok (.aload_n 0, 1) := by decide +kernel
theorem dX11_readAtom_66 : decode cX11_readAtom 66 = .ok (.getfield 208, 3) := by decide +kernel
theorem dX11_readAtom_69 : decode cX11_readAtom 69 = .ok (.bipush 6, 2) := by decide +kernel
theorem dX11_readAtom_71 : decode cX11_readAtom 71 = .ok (.if_icmp .ne 5, 3) := by decide +kernel
theorem dX11_readAtom_74 : decode cX11_readAtom 74 = .ok (.iconst 0, 1) := by decide +kernel
theorem dX11_readAtom_75 : decode cX11_readAtom 75 = .ok (.ireturn, 1) := by decide +kernel
theorem dX11_readAtom_114 : decode cX11_readAtom 114 = .ok (.aload_n 0, 1) := by decide +kernel
theorem dX11_readAtom_115 : decode cX11_readAtom 115 = .ok (.invokevirtual 222, 3) := by decide +kernel
theorem dX11_readAtom_118 : decode cX11_readAtom 118 = .ok (.ifCond .eq 5, 3) := by decide +kernel
theorem dX11_readAtom_121 : decode cX11_readAtom 121 = .ok (.iconst 1, 1) := by decide +kernel
theorem dX11_readAtom_122 : decode cX11_readAtom 122 = .ok (.ireturn, 1) := by decide +kernel
theorem dX11_readAtom_123 : decode cX11_readAtom 123 = .ok (.aload_n 0, 1) := by decide +kernel
theorem dX11_readAtom_124 : decode cX11_readAtom 124 = .ok (.invokevirtual 225, 3) := by decide +kernel
theorem dX11_readAtom_127 : decode cX11_readAtom 127 = .ok (.ifCond .ne 5, 3) := by decide +kernel
theorem dX11_readAtom_130 : decode cX11_readAtom 130 = .ok (.iconst 0, 1) := by decide +kernel
theorem dX11_readAtom_131 : decode cX11_readAtom 131 = .ok (.ireturn, 1) := by decide +kernel
theorem dX11_readAtom_132 : decode cX11_readAtom 132 = .ok (.aload_n 0, 1) := by decide +kernel
theorem dX11_readAtom_133 : decode cX11_readAtom 133 = .ok (.bipush 60, 2) := by decide +kernel
theorem dX11_readAtom_135 : decode cX11_readAtom 135 = .ok (.invokevirtual 198, 3) := by decide +kernel
theorem dX11_readAtom_138 : decode cX11_readAtom 138 = .ok (.istore_n 1, 1) := by decide +kernel
theorem dX11_readAtom_139 : decode cX11_readAtom 139 = .ok (.iload_n 1, 1) := by decide +kernel
theorem dX11_readAtom_140 : decode cX11_readAtom 140 = .ok (.ifCond .ne 12, 3) := by decide +kernel
theorem dX11_readAtom_143 : decode cX11_readAtom 143 = .ok (.aload_n 0, 1) := by decide +kernel
theorem dX11_readAtom_144 : decode cX11_readAtom 144 = .ok (.bipush 62, 2) := by decide +kernel
theorem dX11_readAtom_146 : decode cX11_readAtom 146 = .ok (.invokevirtual 198, 3) := by decide +kernel
theorem dX11_readAtom_149 : decode cX11_readAtom 149 = .ok (.ifCond .eq 10, 3) := by decide +kernel
theorem dX11_readAtom_152 : decode cX11_readAtom 152 = .ok (.aload_n 0, 1) := by decide +kernel
theorem dX11_readAtom_153 : decode cX11_readAtom 153 = .ok (.invokevirtual 225, 3) := by decide +kernel
theorem dX11_readAtom_156 : decode cX11_readAtom 156 = .ok (.ifCond .ne 5, 3) := by decide +kernel
theorem dX11_readAtom_159 : decode cX11_readAtom 159 = .ok (.iconst 0, 1) := by decide +kernel
theorem dX11_readAtom_160 : decode cX11_readAtom 160 = .ok (.ireturn, 1) := by decide +kernel
theorem dX11_readAtom_161 : decode cX11_readAtom 161 = .ok (.aload_n 0, 1) := by decide +kernel
theorem dX11_readAtom_162 : decode cX11_readAtom 162 = .ok (.iload_n 1, 1) := by decide +kernel
theorem dX11_readAtom_163 : decode cX11_readAtom 163 = .ok (.ifCond .eq 8, 3) := by decide +kernel
theorem dX11_readAtom_166 : decode cX11_readAtom 166 = .ok (.bipush 14, 2) := by decide +kernel
theorem dX11_readAtom_168 : decode cX11_readAtom 168 = .ok (.goto 5, 3) := by decide +kernel
theorem dX11_readAtom_171 : decode cX11_readAtom 171 = .ok (.bipush 15, 2) := by decide +kernel
theorem dX11_readAtom_173 : decode cX11_readAtom 173 = .ok (.iconst 0, 1) := by decide +kernel
theorem dX11_readAtom_174 : decode cX11_readAtom 174 = .ok (.invokevirtual 184, 3) := by decide +kernel
theorem dX11_readAtom_177 : decode cX11_readAtom 177 = .ok (.iconst 1, 1) := by decide +kernel
theorem dX11_readAtom_178 : decode cX11_readAtom 178 = .ok (.ireturn, 1) := by decide +kernel
set_option maxHeartbeats 4000000 in
set_option maxRecDepth 100000 in
/-- reference: readAtom -/
theorem r_readAtom6 (l : Launch) (D : va_G) (cI cJ cB cC : ClassId) (h : Nat) (th : Int32) (aw : Nat) (ai : Nat) (ab : Nat) (ac : Nat) (hi : Int32) (re : Int32) (aP : Nat) (ta : Int32) (po : Int32) (en : Int32) (be : Int32) (fa : Int32) (a5 : Nat) (sp : Int32) (av : Nat) (an : Nat) (ak : Nat) (ne : Int32) (aW : Nat) (aC : Nat) (ag : Nat) (aT : Nat) (aN : Nat) (aF : Nat) (fw : Nat → Int32) (ft : Nat → Int32) (sz : Nat) (H_po : Rg po 0 400) (H_en : Rg en 0 400) (H_sp : Rg sp 0 395) (H_fw_W : wW fw) (H_fw_B : wB fw) (H_fw_L : wL fw) (H_SP : (sp : Int32).toInt + 5 ≤ (po : Int32).toInt) : Met l yX11_readAtom kwX11_readAtom ({ frames := 7, cells := 0, slots := 0, locals := 149 } : Room) (kPre D (kT cI cJ cB cC) sz [(h, oX11 th aw ai ab ac hi re aP ta po en be 6 fa a5 sp av an ak ne aW aC ag aT aN aF), (aw, kcI cI 2179 fw), (aP, .inl (cB, 400, .inl ft))] [.ref h]) (va_Qi (fun (r : Int32) (uu : Int32 × Int32 × Int32 × (Nat → Int32)) => match uu with | (n0_, n1_, n2_, f3_) => Rg n0_ 0 400 ∧ Rg n1_ 0 400 ∧ Rg n2_ 0 400 ∧ wB f3_ ∧ wL f3_ ∧ wW f3_ ∧ F_r_readAtom6 (po : Int32).toInt (en : Int32).toInt (sp : Int32).toInt (gT fw) (gT ft) = ((r : Int32).toInt, (n0_ : Int32).toInt, (n1_ : Int32).toInt, (n2_ : Int32).toInt, (gT f3_)) ∧ ((r = 0) ∨ (r = 1 ∧ rOk fw f3_ sp n2_ po n0_ 1 ∧ (6 : Int32).toInt = 6))) (fun (uu : Int32 × Int32 × Int32 × (Nat → Int32)) (t : State) => match uu with | (n0_, n1_, n2_, f3_) => kB D (kT cI cJ cB cC) (va_A [(h, oX11 th aw ai ab ac hi re aP ta po en be 6 fa a5 sp av an ak ne aW aC ag aT aN aF), (aw, kcI cI 2179 fw), (aP, .inl (cB, 400, .inl ft))] sz) [(h, oX11 th aw ai ab ac hi re aP ta n0_ en n1_ 6 fa a5 n2_ av an ak ne aW aC ag aT aN aF), (aw, kcI cI 2179 f3_), (aP, .inl (cB, 400, .inl ft))] t) (va_A [(h, oX11 th aw ai ab ac hi re aP ta po en be 6 fa a5 sp av an ak ne aW aC ag aT aN aF), (aw, kcI cI 2179 fw), (aP, .inl (cB, 400, .inl ft))] sz)) 0 0 (va_A [(h, oX11 th aw ai ab ac hi re aP ta po en be 6 fa a5 sp av an ak ne aW aC ag aT aN aF), (aw, kcI cI 2179 fw), (aP, .inl (cB, 400, .inl ft))] sz) := by
  refine Met.ofW (cc := cX11_readAtom) (maxL := 2) (ret := (some .boolean)) (by decide) rfl ?_
  intro p e s m args below meth c s₁ B hml hv
  obtain ⟨rfl, hsz, hN, hE, hP, hK, hD0⟩ := hv
  have hx := B.exec
  have hb := B.bytes
  have hr := B.returns
  have hts := fun (w : Cond) (h : w ∈ kG) => atoms_spec (ws := kwX11_readAtom) B.pre w (List.mem_cons_of_mem _ h)
  have hown : s.vm.findClass RX11 = some m.cls := findClass_of_methodNamed B.named
  subst hsz
  have hD := hD0.self (sz := s.heap.size)
  generalize hAe : va_A [(h, oX11 th aw ai ab ac hi re aP ta po en be 6 fa a5 sp av an ak ne aW aC ag aT aN aF), (aw, kcI cI 2179 fw), (aP, .inl (cB, 400, .inl ft))] s.heap.size = A at hD hE ⊢
  have hA : ∀ q : Nat, s.heap.size ≤ q → A q := fun q h => by rw [← hAe]; exact Or.inr h
  have hl := lv_entry ([.ref h]) (n := 2) (Nat.le_of_ble_eq_true rfl)
  rw [lg_entry_eq]
  generalize (lg_sl ([.ref h]) ++ List.replicate (2 - (lg_sl ([.ref h])).length) Slot.unset).toArray = ls at hl ⊢
  have hl : lv_has ls 2 [(0, .ref h)] := hl
  obtain ⟨H, hH0⟩ : ∃ H, H = s.heap := ⟨_, rfl⟩
  have hS : va_S A s.heap H [] := by rw [hH0]; exact va_S.rf
  have hP : va_P D vwCl [(h, oX11 th aw ai ab ac hi re aP ta po en be 6 fa a5 sp av an ak ne aW aC ag aT aN aF), (aw, kcI cI 2179 fw), (aP, .inl (cB, 400, .inl ft))] H := by rw [hH0]; exact hP
  refine kHeap hH0 ?_
  clear hH0
  refine lv_aload_n hx hb dX11_readAtom_0 rfl (lv_at hl 0 rfl) ?_
  refine lv_bipush (v := 40) hx hb dX11_readAtom_1 (by decide) ?_
  refine kcalli (wc := [(h, oX11 th aw ai ab ac hi re aP ta po en be 6 fa a5 sp av an ak ne aW aC ag aT aN aF), (aP, .inl (cB, 400, .inl ft))]) (wr := [(aw, kcI cI 2179 fw)]) hP hD hS hA [0, 2] [1] rfl rfl (by decide) (by decide) (by decide) (fun hPc hDc hFc => va_runV (As := [.int 40]) (rest := []) ⟨hx, hb, hml, hown, hts⟩ (r_sign l D cI cJ cB cC h th aw ai ab ac hi re aP ta po en be 6 fa a5 sp av an ak ne aW aC ag aT aN aF ft 40 H.size H_po H_en) (cwV 1 hts gX11_readAtom_X11_sign rfl rfl rfl ⟨rfl, hdX11_sign⟩ ⟨Nat.le_of_ble_eq_true rfl, Nat.le_of_ble_eq_true rfl⟩) ⟨kBlind, va_recv hK hPc (ci := 10) (q0 := 0) rfl rfl, fun U hU hW => ⟨rfl, by rw [hU], hN.warm hW, hE.pass hS hFc hW hU, by rw [hU]; exact hPc, va_K.moved hW.alike hK, hDc⟩⟩ rfl rfl hl.1 rfl (lv_room (Nat.le_of_ble_eq_true rfl)) dX11_readAtom_3 ⟨Nat.le_of_ble_eq_true rfl, Nat.le_of_ble_eq_true rfl⟩) (fun r1 u H locs hw hP hD hS => ?_)
  obtain ⟨x2, x3⟩ := u
  have hP : va_P D vwCl [(aw, kcI cI 2179 fw), (h, oX11 th aw ai ab ac hi re aP ta x2 en x3 6 fa a5 sp av an ak ne aW aC ag aT aN aF), (aP, .inl (cB, 400, .inl ft))] H := hP
  have hD : va_D A [(aw, kcI cI 2179 fw), (h, oX11 th aw ai ab ac hi re aP ta x2 en x3 6 fa a5 sp av an ak ne aW aC ag aT aN aF), (aP, .inl (cB, 400, .inl ft))] := hD
  obtain ⟨k4, k5, k6, hw⟩ := hw
  rcases hw with ⟨rfl, kc7_0⟩ | ⟨rfl, kc7_0, kc7_1⟩
  · skip
    refine lv_if_eq (tgt := 56) hx hb dX11_readAtom_6 (by decide) (fun _ => ?_) (fun c8 => absurd (by decide) c8)
    refine lv_aload_n hx hb dX11_readAtom_56 rfl (lv_at hl 0 rfl) ?_
    obtain ⟨q9, q10, hR11, hT12⟩ := kTx_19 hE.2.2
    refine va_ldcS hx hb hown hR11 dX11_readAtom_57 ?_
    refine kcalli (wc := [(h, oX11 th aw ai ab ac hi re aP ta x2 en x3 6 fa a5 sp av an ak ne aW aC ag aT aN aF), (aP, .inl (cB, 400, .inl ft))]) (wr := [(aw, kcI cI 2179 fw)]) hP hD hS hA [1, 2] [0] rfl rfl (by decide) (by decide) (by decide) (fun hPc hDc hFc => va_runV (As := [.ref q9]) (rest := []) ⟨hx, hb, hml, hown, hts⟩ (r_passes l D cI cJ cB cC h th aw ai ab ac hi re aP ta x2 en x3 6 fa a5 sp av an ak ne aW aC ag aT aN aF ft q9 kSb19 q10 H.size k4 H_en kSb19_le) (cwV 1 hts gX11_readAtom_X11_passes rfl rfl rfl ⟨rfl, hdX11_passes⟩ ⟨Nat.le_of_ble_eq_true rfl, Nat.le_of_ble_eq_true rfl⟩) ⟨kBlindT, va_recv hK hPc (ci := 10) (q0 := 0) rfl rfl, fun U hU hW => ⟨rfl, by rw [hU], hN.warm hW, hE.pass hS hFc hW hU, hT12.pass hS hFc hW hU, by rw [hU]; exact hPc, va_K.moved hW.alike hK, hDc⟩⟩ rfl rfl hl.1 rfl (lv_room (Nat.le_of_ble_eq_true rfl)) dX11_readAtom_59 ⟨Nat.le_of_ble_eq_true rfl, Nat.le_of_ble_eq_true rfl⟩) (fun r13 u H locs hw hP hD hS => ?_)
    obtain ⟨x14, x15⟩ := u
    have hP : va_P D vwCl [(aw, kcI cI 2179 fw), (h, oX11 th aw ai ab ac hi re aP ta x14 en x15 6 fa a5 sp av an ak ne aW aC ag aT aN aF), (aP, .inl (cB, 400, .inl ft))] H := hP
    have hD : va_D A [(aw, kcI cI 2179 fw), (h, oX11 th aw ai ab ac hi re aP ta x14 en x15 6 fa a5 sp av an ak ne aW aC ag aT aN aF), (aP, .inl (cB, 400, .inl ft))] := hD
    obtain ⟨k16, k17, k18, hw⟩ := hw
    rcases hw with ⟨rfl, kc19_0⟩ | ⟨rfl, kc19_0⟩
    · skip
      refine lv_if_eq (tgt := 114) hx hb dX11_readAtom_62 (by decide) (fun _ => ?_) (fun c20 => absurd (by decide) c20)
      refine lv_aload_n hx hb dX11_readAtom_114 rfl (lv_at hl 0 rfl) ?_
      have k21 : (sp : Int32).toInt + 5 ≤ (x14 : Int32).toInt := (by have q0 := H_SP; have q1 := kc7_0; have q3 := kc19_0; have q4 := H_sp; have q5 := k16; have q6 : (0 : Int32).toInt = 0 := (by decide); have q7 : (1 : Int32).toInt = 1 := (by decide); unfold Rg at *; omega)
      refine kcalli (wc := [(h, oX11 th aw ai ab ac hi re aP ta x14 en x15 6 fa a5 sp av an ak ne aW aC ag aT aN aF), (aw, kcI cI 2179 fw), (aP, .inl (cB, 400, .inl ft))]) (wr := []) hP hD hS hA [1, 0, 2] [] rfl rfl (by decide) (by decide) (by decide) (fun hPc hDc hFc => va_runV (As := []) (rest := []) ⟨hx, hb, hml, hown, hts⟩ (r_readTag l D cI cJ cB cC h th aw ai ab ac hi re aP ta x14 en x15 6 fa a5 sp av an ak ne aW aC ag aT aN aF fw ft H.size k16 H_en H_sp H_fw_W H_fw_B H_fw_L k21) (cwV 0 hts gX11_readAtom_X11_readTag rfl rfl rfl ⟨rfl, hdX11_readTag⟩ ⟨Nat.le_of_ble_eq_true rfl, Nat.le_of_ble_eq_true rfl⟩) ⟨kBlind, va_recv hK hPc (ci := 10) (q0 := 0) rfl rfl, fun U hU hW => ⟨rfl, by rw [hU], hN.warm hW, hE.pass hS hFc hW hU, by rw [hU]; exact hPc, va_K.moved hW.alike hK, hDc⟩⟩ rfl rfl hl.1 rfl (lv_room (Nat.le_of_ble_eq_true rfl)) dX11_readAtom_115 ⟨Nat.le_of_ble_eq_true rfl, Nat.le_of_ble_eq_true rfl⟩) (fun r22 u H locs hw hP hD hS => ?_)
      obtain ⟨x23, x24, x25, g26⟩ := u
      have hP : va_P D vwCl [(h, oX11 th aw ai ab ac hi re aP ta x23 en x24 6 fa a5 x25 av an ak ne aW aC ag aT aN aF), (aw, kcI cI 2179 g26), (aP, .inl (cB, 400, .inl ft))] H := hP
      have hD : va_D A [(h, oX11 th aw ai ab ac hi re aP ta x23 en x24 6 fa a5 x25 av an ak ne aW aC ag aT aN aF), (aw, kcI cI 2179 g26), (aP, .inl (cB, 400, .inl ft))] := hD
      obtain ⟨k27, k28, k29, k30, k31, k32, k33, hw⟩ := hw
      rcases hw with ⟨rfl, kc34_0⟩ | ⟨rfl, kc34_0⟩
      · skip
        refine lv_if_eq (tgt := 123) hx hb dX11_readAtom_118 (by decide) (fun _ => ?_) (fun c35 => absurd (by decide) c35)
        refine lv_aload_n hx hb dX11_readAtom_123 rfl (lv_at hl 0 rfl) ?_
        have k36 : (x25 : Int32).toInt + 5 ≤ (x23 : Int32).toInt := (by have q0 := H_SP; have q1 := kc7_0; have q3 := kc19_0; have q4 := k21; obtain ⟨-, -, u5, v5, w5⟩ := kc34_0; have q6 := k29; have q7 := k27; have q8 : (0 : Int32).toInt = 0 := (by decide); have q9 : (1 : Int32).toInt = 1 := (by decide); unfold Rg at *; omega)
        have k37 : Rg x25 0 395 := (by have q1 := k36; have q2 := k29; have q3 := k27; unfold Rg at *; exact ⟨by omega, by omega⟩)
        refine kcalli (wc := [(h, oX11 th aw ai ab ac hi re aP ta x23 en x24 6 fa a5 x25 av an ak ne aW aC ag aT aN aF), (aw, kcI cI 2179 g26), (aP, .inl (cB, 400, .inl ft))]) (wr := []) hP hD hS hA [0, 1, 2] [] rfl rfl (by decide) (by decide) (by decide) (fun hPc hDc hFc => va_runV (As := []) (rest := []) ⟨hx, hb, hml, hown, hts⟩ (r_readSum l D cI cJ cB cC h th aw ai ab ac hi re aP ta x23 en x24 6 fa a5 x25 av an ak ne aW aC ag aT aN aF g26 ft H.size k27 H_en k37 k32 k30 k31 k36) (cwV 0 hts gX11_readAtom_X11_readSum rfl rfl rfl ⟨rfl, hdX11_readSum⟩ ⟨Nat.le_of_ble_eq_true rfl, Nat.le_of_ble_eq_true rfl⟩) ⟨kBlind, va_recv hK hPc (ci := 10) (q0 := 0) rfl rfl, fun U hU hW => ⟨rfl, by rw [hU], hN.warm hW, hE.pass hS hFc hW hU, by rw [hU]; exact hPc, va_K.moved hW.alike hK, hDc⟩⟩ rfl rfl hl.1 rfl (lv_room (Nat.le_of_ble_eq_true rfl)) dX11_readAtom_124 ⟨Nat.le_of_ble_eq_true rfl, Nat.le_of_ble_eq_true rfl⟩) (fun r38 u H locs hw hP hD hS => ?_)
        obtain ⟨x39, x40, x41, g42⟩ := u
        have hP : va_P D vwCl [(h, oX11 th aw ai ab ac hi re aP ta x39 en x40 6 fa a5 x41 av an ak ne aW aC ag aT aN aF), (aw, kcI cI 2179 g42), (aP, .inl (cB, 400, .inl ft))] H := hP
        have hD : va_D A [(h, oX11 th aw ai ab ac hi re aP ta x39 en x40 6 fa a5 x41 av an ak ne aW aC ag aT aN aF), (aw, kcI cI 2179 g42), (aP, .inl (cB, 400, .inl ft))] := hD
        obtain ⟨k43, k44, k45, k46, k47, k48, k49, hw⟩ := hw
        rcases hw with rfl | ⟨rfl, kc50_0⟩
        · skip
          refine lv_if_ne (tgt := 132) hx hb dX11_readAtom_127 (by decide) (fun c51 => absurd (by decide) c51) (fun _ => ?_)
          refine lv_iconst (v := 0) hx hb dX11_readAtom_130 (by decide) ?_
          have hP9 := hP.sub (ws' := [(h, oX11 th aw ai ab ac hi re aP ta x39 en x40 6 fa a5 x41 av an ak ne aW aC ag aT aN aF), (aw, kcI cI 2179 g42), (aP, .inl (cB, 400, .inl ft))]) [0, 1, 2] rfl
          have hD9 := hD.sub (ws' := [(h, oX11 th aw ai ab ac hi re aP ta x39 en x40 6 fa a5 x41 av an ak ne aW aC ag aT aN aF), (aw, kcI cI 2179 g42), (aP, .inl (cB, 400, .inl ft))]) [0, 1, 2] (by decide) rfl
          exact W.zret (v := 0) hx hb hr (by decide) (fun t ht hW => ⟨⟨0, (x39, x40, x41, g42), rfl, ⟨k43, k44, k45, k46, k47, k48, (kC_eq k6 (kC_eq rfl (kif_t rfl (kC_eq k18 (kC_eq rfl (kif_t rfl (kC_eq k33 (kC_eq rfl (kC_eq rfl (kC_eq rfl (kif_t rfl (kC_eq k49 (kC_eq rfl (kC_eq rfl (kC_eq rfl (kif_t rfl rfl)))))))))))))))), (Or.inl rfl)⟩, by rw [ht]; exact hP9, va_K.moved hW.alike hK, hD9⟩, hS.F ht⟩) hS.2.2 dX11_readAtom_131
        · skip
          refine lv_if_ne (tgt := 132) hx hb dX11_readAtom_127 (by decide) (fun _ => ?_) (fun c52 => absurd c52 (by decide))
          refine lv_aload_n hx hb dX11_readAtom_132 rfl (lv_at hl 0 rfl) ?_
          refine lv_bipush (v := 60) hx hb dX11_readAtom_133 (by decide) ?_
          refine kcalli (wc := [(h, oX11 th aw ai ab ac hi re aP ta x39 en x40 6 fa a5 x41 av an ak ne aW aC ag aT aN aF), (aP, .inl (cB, 400, .inl ft))]) (wr := [(aw, kcI cI 2179 g42)]) hP hD hS hA [0, 2] [1] rfl rfl (by decide) (by decide) (by decide) (fun hPc hDc hFc => va_runV (As := [.int 60]) (rest := []) ⟨hx, hb, hml, hown, hts⟩ (r_sign l D cI cJ cB cC h th aw ai ab ac hi re aP ta x39 en x40 6 fa a5 x41 av an ak ne aW aC ag aT aN aF ft 60 H.size k43 H_en) (cwV 1 hts gX11_readAtom_X11_sign rfl rfl rfl ⟨rfl, hdX11_sign⟩ ⟨Nat.le_of_ble_eq_true rfl, Nat.le_of_ble_eq_true rfl⟩) ⟨kBlind, va_recv hK hPc (ci := 10) (q0 := 0) rfl rfl, fun U hU hW => ⟨rfl, by rw [hU], hN.warm hW, hE.pass hS hFc hW hU, by rw [hU]; exact hPc, va_K.moved hW.alike hK, hDc⟩⟩ rfl rfl hl.1 rfl (lv_room (Nat.le_of_ble_eq_true rfl)) dX11_readAtom_135 ⟨Nat.le_of_ble_eq_true rfl, Nat.le_of_ble_eq_true rfl⟩) (fun r53 u H locs hw hP hD hS => ?_)
          obtain ⟨x54, x55⟩ := u
          have hP : va_P D vwCl [(aw, kcI cI 2179 g42), (h, oX11 th aw ai ab ac hi re aP ta x54 en x55 6 fa a5 x41 av an ak ne aW aC ag aT aN aF), (aP, .inl (cB, 400, .inl ft))] H := hP
          have hD : va_D A [(aw, kcI cI 2179 g42), (h, oX11 th aw ai ab ac hi re aP ta x54 en x55 6 fa a5 x41 av an ak ne aW aC ag aT aN aF), (aP, .inl (cB, 400, .inl ft))] := hD
          obtain ⟨k56, k57, k58, hw⟩ := hw
          rcases hw with ⟨rfl, kc59_0⟩ | ⟨rfl, kc59_0, kc59_1⟩
          · skip
            refine lv_istore_n (lv' := [(1, .int 0), (0, .ref h)]) hx hb dX11_readAtom_138 rfl hl (by decide) rfl (fun ls hl => ?_)
            refine lv_iload_n hx hb dX11_readAtom_139 rfl (lv_at hl 0 rfl) ?_
            refine k_join (hd := 159) (cells2 := 0) (slots2 := 0) (fun (u : (Nat → Int32) × Int32 × Int32 × Int32) => match u with | (g102, y103, y104, y105) => []) (fun (u : (Nat → Int32) × Int32 × Int32 × Int32) (H : Heap) (locs : List Loc) (ls : Array Slot) => match u with | (g102, y103, y104, y105) => (F_r_readAtom6 po.toInt en.toInt sp.toInt (gT fw) (gT ft) = F_r_readAtom6_j1 (gT g102) y103.toInt y104.toInt y105.toInt) ∧ wB g102 ∧ wL g102 ∧ wW g102 ∧ Rg y103 0 400 ∧ Rg y104 0 400 ∧ Rg y105 0 400 ∧ va_P D vwCl [(aw, kcI cI 2179 g102), (h, oX11 th aw ai ab ac hi re aP ta y103 en y104 6 fa a5 y105 av an ak ne aW aC ag aT aN aF), (aP, .inl (cB, 400, .inl ft))] H ∧ va_D A [(aw, kcI cI 2179 g102), (h, oX11 th aw ai ab ac hi re aP ta y103 en y104 6 fa a5 y105 av an ak ne aW aC ag aT aN aF), (aP, .inl (cB, 400, .inl ft))] ∧ va_S A s.heap H locs ∧ lv_has ls 2 [(1, .int 0), (0, .ref h)]) (fun u H locs ls hI => ?_) (fun hJ159 => ?_)
            · skip
              clear hP hD hS hl
              obtain ⟨g102, y103, y104, y105⟩ := u
              obtain ⟨hF1, hg102_0, hg102_1, hg102_2, hy103, hy104, hy105, hP, hD, hS, hl⟩ := hI
              have hP : va_P D vwCl [(aw, kcI cI 2179 g102), (h, oX11 th aw ai ab ac hi re aP ta y103 en y104 6 fa a5 y105 av an ak ne aW aC ag aT aN aF), (aP, .inl (cB, 400, .inl ft))] H := hP
              have hD : va_D A [(aw, kcI cI 2179 g102), (h, oX11 th aw ai ab ac hi re aP ta y103 en y104 6 fa a5 y105 av an ak ne aW aC ag aT aN aF), (aP, .inl (cB, 400, .inl ft))] := hD
              have hl : lv_has ls 2 [(1, .int 0), (0, .ref h)] := hl
              refine lv_iconst (v := 0) hx hb dX11_readAtom_159 (by decide) ?_
              have hP9 := hP.sub (ws' := [(h, oX11 th aw ai ab ac hi re aP ta y103 en y104 6 fa a5 y105 av an ak ne aW aC ag aT aN aF), (aw, kcI cI 2179 g102), (aP, .inl (cB, 400, .inl ft))]) [1, 0, 2] rfl
              have hD9 := hD.sub (ws' := [(h, oX11 th aw ai ab ac hi re aP ta y103 en y104 6 fa a5 y105 av an ak ne aW aC ag aT aN aF), (aw, kcI cI 2179 g102), (aP, .inl (cB, 400, .inl ft))]) [1, 0, 2] (by decide) rfl
              exact W.zret (v := 0) hx hb hr (by decide) (fun t ht hW => ⟨⟨0, (y103, y104, y105, g102), rfl, ⟨hy103, hy104, hy105, hg102_0, hg102_1, hg102_2, (hF1.trans rfl), (Or.inl rfl)⟩, by rw [ht]; exact hP9, va_K.moved hW.alike hK, hD9⟩, hS.F ht⟩) hS.2.2 dX11_readAtom_160
            refine lv_if_ne (tgt := 152) hx hb dX11_readAtom_140 (by decide) (fun c106 => absurd (by decide) c106) (fun _ => ?_)
            refine lv_aload_n hx hb dX11_readAtom_143 rfl (lv_at hl 1 rfl) ?_
            refine lv_bipush (v := 62) hx hb dX11_readAtom_144 (by decide) ?_
            refine kcalli (wc := [(h, oX11 th aw ai ab ac hi re aP ta x54 en x55 6 fa a5 x41 av an ak ne aW aC ag aT aN aF), (aP, .inl (cB, 400, .inl ft))]) (wr := [(aw, kcI cI 2179 g42)]) hP hD hS hA [1, 2] [0] rfl rfl (by decide) (by decide) (by decide) (fun hPc hDc hFc => va_runV (As := [.int 62]) (rest := []) ⟨hx, hb, hml, hown, hts⟩ (r_sign l D cI cJ cB cC h th aw ai ab ac hi re aP ta x54 en x55 6 fa a5 x41 av an ak ne aW aC ag aT aN aF ft 62 H.size k56 H_en) (cwV 1 hts gX11_readAtom_X11_sign rfl rfl rfl ⟨rfl, hdX11_sign⟩ ⟨Nat.le_of_ble_eq_true rfl, Nat.le_of_ble_eq_true rfl⟩) ⟨kBlind, va_recv hK hPc (ci := 10) (q0 := 0) rfl rfl, fun U hU hW => ⟨rfl, by rw [hU], hN.warm hW, hE.pass hS hFc hW hU, by rw [hU]; exact hPc, va_K.moved hW.alike hK, hDc⟩⟩ rfl rfl hl.1 rfl (lv_room (Nat.le_of_ble_eq_true rfl)) dX11_readAtom_146 ⟨Nat.le_of_ble_eq_true rfl, Nat.le_of_ble_eq_true rfl⟩) (fun r107 u H locs hw hP hD hS => ?_)
            obtain ⟨x108, x109⟩ := u
            have hP : va_P D vwCl [(aw, kcI cI 2179 g42), (h, oX11 th aw ai ab ac hi re aP ta x108 en x109 6 fa a5 x41 av an ak ne aW aC ag aT aN aF), (aP, .inl (cB, 400, .inl ft))] H := hP
            have hD : va_D A [(aw, kcI cI 2179 g42), (h, oX11 th aw ai ab ac hi re aP ta x108 en x109 6 fa a5 x41 av an ak ne aW aC ag aT aN aF), (aP, .inl (cB, 400, .inl ft))] := hD
            obtain ⟨k110, k111, k112, hw⟩ := hw
            rcases hw with ⟨rfl, kc113_0⟩ | ⟨rfl, kc113_0, kc113_1⟩
            · skip
              refine lv_if_eq (tgt := 159) hx hb dX11_readAtom_149 (by decide) (fun _ => ?_) (fun c114 => absurd (by decide) c114)
              exact hJ159 (g42, x108, x109, x41) _ _ _ ⟨(kC_eq k6 (kC_eq rfl (kif_t rfl (kC_eq k18 (kC_eq rfl (kif_t rfl (kC_eq k33 (kC_eq rfl (kC_eq rfl (kC_eq rfl (kif_t rfl (kC_eq k49 (kC_eq rfl (kC_eq rfl (kC_eq rfl (kif_f (by decide) (kC_eq k58 (kC_eq rfl (kif_t rfl (kC_eq k112 (kC_eq rfl (kif_t rfl rfl)))))))))))))))))))))), k46, k47, k48, k110, k111, k45, hP.sub (ws' := [(aw, kcI cI 2179 g42), (h, oX11 th aw ai ab ac hi re aP ta x108 en x109 6 fa a5 x41 av an ak ne aW aC ag aT aN aF), (aP, .inl (cB, 400, .inl ft))]) [0, 1, 2] rfl, hD.sub (ws' := [(aw, kcI cI 2179 g42), (h, oX11 th aw ai ab ac hi re aP ta x108 en x109 6 fa a5 x41 av an ak ne aW aC ag aT aN aF), (aP, .inl (cB, 400, .inl ft))]) [0, 1, 2] (by decide) rfl, hS, lv_sub (l' := [(1, .int 0), (0, .ref h)]) hl [0, 1] rfl⟩
            · skip
              refine lv_if_eq (tgt := 159) hx hb dX11_readAtom_149 (by decide) (fun c115 => absurd c115 (by decide)) (fun _ => ?_)
              refine lv_aload_n hx hb dX11_readAtom_152 rfl (lv_at hl 1 rfl) ?_
              have k116 : (x41 : Int32).toInt + 5 ≤ (x108 : Int32).toInt := (by have q0 := H_SP; have q1 := kc7_0; have q3 := kc19_0; have q4 := k21; obtain ⟨-, -, u5, v5, w5⟩ := kc34_0; have q6 := k36; obtain ⟨-, -, u7, v7, w7⟩ := kc50_0; have q8 := kc59_0; have q9 := kc113_1; have q10 := k45; have q11 := k110; have q12 : (0 : Int32).toInt = 0 := (by decide); have q13 : (1 : Int32).toInt = 1 := (by decide); unfold Rg at *; omega)
              have k117 : Rg x41 0 395 := (by have q1 := k116; have q2 := k45; have q3 := k110; unfold Rg at *; exact ⟨by omega, by omega⟩)
              refine kcalli (wc := [(h, oX11 th aw ai ab ac hi re aP ta x108 en x109 6 fa a5 x41 av an ak ne aW aC ag aT aN aF), (aw, kcI cI 2179 g42), (aP, .inl (cB, 400, .inl ft))]) (wr := []) hP hD hS hA [1, 0, 2] [] rfl rfl (by decide) (by decide) (by decide) (fun hPc hDc hFc => va_runV (As := []) (rest := []) ⟨hx, hb, hml, hown, hts⟩ (r_readSum l D cI cJ cB cC h th aw ai ab ac hi re aP ta x108 en x109 6 fa a5 x41 av an ak ne aW aC ag aT aN aF g42 ft H.size k110 (rg_w kc113_0 (by decide)) k117 k48 k46 k47 k116) (cwV 0 hts gX11_readAtom_X11_readSum rfl rfl rfl ⟨rfl, hdX11_readSum⟩ ⟨Nat.le_of_ble_eq_true rfl, Nat.le_of_ble_eq_true rfl⟩) ⟨kBlind, va_recv hK hPc (ci := 10) (q0 := 0) rfl rfl, fun U hU hW => ⟨rfl, by rw [hU], hN.warm hW, hE.pass hS hFc hW hU, by rw [hU]; exact hPc, va_K.moved hW.alike hK, hDc⟩⟩ rfl rfl hl.1 rfl (lv_room (Nat.le_of_ble_eq_true rfl)) dX11_readAtom_153 ⟨Nat.le_of_ble_eq_true rfl, Nat.le_of_ble_eq_true rfl⟩) (fun r118 u H locs hw hP hD hS => ?_)
              obtain ⟨x119, x120, x121, g122⟩ := u
              have hP : va_P D vwCl [(h, oX11 th aw ai ab ac hi re aP ta x119 en x120 6 fa a5 x121 av an ak ne aW aC ag aT aN aF), (aw, kcI cI 2179 g122), (aP, .inl (cB, 400, .inl ft))] H := hP
              have hD : va_D A [(h, oX11 th aw ai ab ac hi re aP ta x119 en x120 6 fa a5 x121 av an ak ne aW aC ag aT aN aF), (aw, kcI cI 2179 g122), (aP, .inl (cB, 400, .inl ft))] := hD
              obtain ⟨k123, k124, k125, k126, k127, k128, k129, hw⟩ := hw
              rcases hw with rfl | ⟨rfl, kc130_0⟩
              · skip
                refine lv_if_ne (tgt := 161) hx hb dX11_readAtom_156 (by decide) (fun c131 => absurd (by decide) c131) (fun _ => ?_)
                exact hJ159 (g122, x119, x120, x121) _ _ _ ⟨(kC_eq k6 (kC_eq rfl (kif_t rfl (kC_eq k18 (kC_eq rfl (kif_t rfl (kC_eq k33 (kC_eq rfl (kC_eq rfl (kC_eq rfl (kif_t rfl (kC_eq k49 (kC_eq rfl (kC_eq rfl (kC_eq rfl (kif_f (by decide) (kC_eq k58 (kC_eq rfl (kif_t rfl (kC_eq k112 (kC_eq rfl (kif_f (by decide) (kC_eq k129 (kC_eq rfl (kC_eq rfl (kC_eq rfl (kif_t rfl rfl))))))))))))))))))))))))))), k126, k127, k128, k123, k124, k125, hP.sub (ws' := [(aw, kcI cI 2179 g122), (h, oX11 th aw ai ab ac hi re aP ta x119 en x120 6 fa a5 x121 av an ak ne aW aC ag aT aN aF), (aP, .inl (cB, 400, .inl ft))]) [1, 0, 2] rfl, hD.sub (ws' := [(aw, kcI cI 2179 g122), (h, oX11 th aw ai ab ac hi re aP ta x119 en x120 6 fa a5 x121 av an ak ne aW aC ag aT aN aF), (aP, .inl (cB, 400, .inl ft))]) [1, 0, 2] (by decide) rfl, hS, lv_sub (l' := [(1, .int 0), (0, .ref h)]) hl [0, 1] rfl⟩
              · skip
                refine lv_if_ne (tgt := 161) hx hb dX11_readAtom_156 (by decide) (fun _ => ?_) (fun c132 => absurd c132 (by decide))
                refine lv_aload_n hx hb dX11_readAtom_161 rfl (lv_at hl 1 rfl) ?_
                refine lv_iload_n hx hb dX11_readAtom_162 rfl (lv_at hl 0 rfl) ?_
                refine lv_if_eq (tgt := 171) hx hb dX11_readAtom_163 (by decide) (fun _ => ?_) (fun c134 => absurd (by decide) c134)
                refine lv_bipush (v := 15) hx hb dX11_readAtom_171 (by decide) ?_
                refine lv_iconst (v := 0) hx hb dX11_readAtom_173 (by decide) ?_
                have k135 : (x121 : Int32).toInt + 5 ≤ (x119 : Int32).toInt := (by have q0 := H_SP; have q1 := kc7_0; have q3 := kc19_0; have q4 := k21; obtain ⟨-, -, u5, v5, w5⟩ := kc34_0; have q6 := k36; obtain ⟨-, -, u7, v7, w7⟩ := kc50_0; have q8 := kc59_0; have q9 := kc113_1; have q10 := k116; obtain ⟨-, -, u11, v11, w11⟩ := kc130_0; have q12 := k125; have q13 := k123; have q14 : (0 : Int32).toInt = 0 := (by decide); have q15 : (1 : Int32).toInt = 1 := (by decide); unfold Rg at *; omega)
                have k136 : Rg x121 0 395 := (by have q1 := k135; have q2 := k125; have q3 := k123; unfold Rg at *; exact ⟨by omega, by omega⟩)
                refine kcallv (wc := [(h, oX11 th aw ai ab ac hi re aP ta x119 en x120 6 fa a5 x121 av an ak ne aW aC ag aT aN aF), (aw, kcI cI 2179 g122)]) (wr := [(aP, .inl (cB, 400, .inl ft))]) hP hD hS hA [0, 1] [2] rfl rfl (by decide) (by decide) (by decide) (fun hPc hDc hFc => va_runV (As := [.int 15, .int 0]) (rest := []) ⟨hx, hb, hml, hown, hts⟩ (r_emits l D cI cJ cB cC h th aw ai ab ac hi re aP ta x119 en x120 6 fa a5 x121 av an ak ne aW aC ag aT aN aF g122 15 0 H.size (rg_w k136 (by decide)) k128 k126 k127) (cwV 2 hts gX11_readAtom_X11_emits rfl rfl rfl ⟨rfl, hdX11_emits⟩ ⟨Nat.le_of_ble_eq_true rfl, Nat.le_of_ble_eq_true rfl⟩) ⟨kBlind, va_recv hK hPc (ci := 10) (q0 := 0) rfl rfl, fun U hU hW => ⟨rfl, by rw [hU], hN.warm hW, hE.pass hS hFc hW hU, by rw [hU]; exact hPc, va_K.moved hW.alike hK, hDc⟩⟩ rfl rfl hl.1 rfl (lv_room (Nat.le_of_ble_eq_true rfl)) dX11_readAtom_174 ⟨Nat.le_of_ble_eq_true rfl, Nat.le_of_ble_eq_true rfl⟩) (fun u H locs hw hP hD hS => ?_)
                obtain ⟨x137, g138⟩ := u
                have hP : va_P D vwCl [(aP, .inl (cB, 400, .inl ft)), (h, oX11 th aw ai ab ac hi re aP ta x119 en x120 6 fa a5 x137 av an ak ne aW aC ag aT aN aF), (aw, kcI cI 2179 g138)] H := hP
                have hD : va_D A [(aP, .inl (cB, 400, .inl ft)), (h, oX11 th aw ai ab ac hi re aP ta x119 en x120 6 fa a5 x137 av an ak ne aW aC ag aT aN aF), (aw, kcI cI 2179 g138)] := hD
                obtain ⟨k139, k140, k141, k142, k143, k144⟩ := hw
                refine lv_iconst (v := 1) hx hb dX11_readAtom_177 (by decide) ?_
                have hP9 := hP.sub (ws' := [(h, oX11 th aw ai ab ac hi re aP ta x119 en x120 6 fa a5 x137 av an ak ne aW aC ag aT aN aF), (aw, kcI cI 2179 g138), (aP, .inl (cB, 400, .inl ft))]) [1, 2, 0] rfl
                have hD9 := hD.sub (ws' := [(h, oX11 th aw ai ab ac hi re aP ta x119 en x120 6 fa a5 x137 av an ak ne aW aC ag aT aN aF), (aw, kcI cI 2179 g138), (aP, .inl (cB, 400, .inl ft))]) [1, 2, 0] (by decide) rfl
                exact W.zret (v := 1) hx hb hr (by decide) (fun t ht hW => ⟨⟨1, (x119, x120, x137, g138), rfl, ⟨k123, k124, (rg_w k139 (by decide)), k140, k141, k142, (kC_eq k6 (kC_eq rfl (kif_t rfl (kC_eq k18 (kC_eq rfl (kif_t rfl (kC_eq k33 (kC_eq rfl (kC_eq rfl (kC_eq rfl (kif_t rfl (kC_eq k49 (kC_eq rfl (kC_eq rfl (kC_eq rfl (kif_f (by decide) (kC_eq k58 (kC_eq rfl (kif_t rfl (kC_eq k112 (kC_eq rfl (kif_f (by decide) (kC_eq k129 (kC_eq rfl (kC_eq rfl (kC_eq rfl (kif_f (by decide) (kC_eq k144 rfl)))))))))))))))))))))))))))), (Or.inr ⟨rfl, (rOk_bin (rOk_le (rOk_tr kc34_0 kc50_0 (Int.le_refl _)) (by have q0 := H_SP; have q1 := kc7_0; have q3 := kc19_0; have q4 := k21; obtain ⟨-, -, u5, v5, w5⟩ := kc34_0; have q6 := k36; obtain ⟨-, -, u7, v7, w7⟩ := kc50_0; have q8 := kc59_0; have q9 := kc113_1; have q10 := k116; obtain ⟨-, -, u11, v11, w11⟩ := kc130_0; have q12 := k135; obtain ⟨-, -, u13, -⟩ := k143; have q15 : (0 : Int32).toInt = 0 := (by decide); have q16 : (1 : Int32).toInt = 1 := (by decide); unfold Rg at *; omega) (Int.le_refl _)) (by have q0 := H_SP; have q1 := kc7_0; have q3 := kc19_0; have q4 := k21; obtain ⟨-, -, u5, v5, w5⟩ := kc34_0; have q6 := k36; obtain ⟨-, -, u7, v7, w7⟩ := kc50_0; have q8 := kc59_0; have q9 := kc113_1; have q10 := k116; obtain ⟨-, -, u11, v11, w11⟩ := kc130_0; have q12 := k135; obtain ⟨-, -, u13, -⟩ := k143; have q15 : (0 : Int32).toInt = 0 := (by decide); have q16 : (1 : Int32).toInt = 1 := (by decide); unfold Rg at *; omega) kc130_0 k143 (by decide) (by decide)), (by decide)⟩)⟩, by rw [ht]; exact hP9, va_K.moved hW.alike hK, hD9⟩, hS.F ht⟩) hS.2.2 dX11_readAtom_178
          · skip
            refine lv_istore_n (lv' := [(1, .int 1), (0, .ref h)]) hx hb dX11_readAtom_138 rfl hl (by decide) rfl (fun ls hl => ?_)
            refine lv_iload_n hx hb dX11_readAtom_139 rfl (lv_at hl 0 rfl) ?_
            refine lv_if_ne (tgt := 152) hx hb dX11_readAtom_140 (by decide) (fun _ => ?_) (fun c174 => absurd c174 (by decide))
            refine lv_aload_n hx hb dX11_readAtom_152 rfl (lv_at hl 1 rfl) ?_
            have k175 : (x41 : Int32).toInt + 5 ≤ (x54 : Int32).toInt := (by have q0 := H_SP; have q1 := kc7_0; have q3 := kc19_0; have q4 := k21; obtain ⟨-, -, u5, v5, w5⟩ := kc34_0; have q6 := k36; obtain ⟨-, -, u7, v7, w7⟩ := kc50_0; have q8 := kc59_1; have q9 := k45; have q10 := k56; have q11 : (0 : Int32).toInt = 0 := (by decide); have q12 : (1 : Int32).toInt = 1 := (by decide); unfold Rg at *; omega)
            have k176 : Rg x41 0 395 := (by have q1 := k175; have q2 := k45; have q3 := k56; unfold Rg at *; exact ⟨by omega, by omega⟩)
            refine kcalli (wc := [(h, oX11 th aw ai ab ac hi re aP ta x54 en x55 6 fa a5 x41 av an ak ne aW aC ag aT aN aF), (aw, kcI cI 2179 g42), (aP, .inl (cB, 400, .inl ft))]) (wr := []) hP hD hS hA [1, 0, 2] [] rfl rfl (by decide) (by decide) (by decide) (fun hPc hDc hFc => va_runV (As := []) (rest := []) ⟨hx, hb, hml, hown, hts⟩ (r_readSum l D cI cJ cB cC h th aw ai ab ac hi re aP ta x54 en x55 6 fa a5 x41 av an ak ne aW aC ag aT aN aF g42 ft H.size k56 (rg_w kc59_0 (by decide)) k176 k48 k46 k47 k175) (cwV 0 hts gX11_readAtom_X11_readSum rfl rfl rfl ⟨rfl, hdX11_readSum⟩ ⟨Nat.le_of_ble_eq_true rfl, Nat.le_of_ble_eq_true rfl⟩) ⟨kBlind, va_recv hK hPc (ci := 10) (q0 := 0) rfl rfl, fun U hU hW => ⟨rfl, by rw [hU], hN.warm hW, hE.pass hS hFc hW hU, by rw [hU]; exact hPc, va_K.moved hW.alike hK, hDc⟩⟩ rfl rfl hl.1 rfl (lv_room (Nat.le_of_ble_eq_true rfl)) dX11_readAtom_153 ⟨Nat.le_of_ble_eq_true rfl, Nat.le_of_ble_eq_true rfl⟩) (fun r177 u H locs hw hP hD hS => ?_)
            obtain ⟨x178, x179, x180, g181⟩ := u
            have hP : va_P D vwCl [(h, oX11 th aw ai ab ac hi re aP ta x178 en x179 6 fa a5 x180 av an ak ne aW aC ag aT aN aF), (aw, kcI cI 2179 g181), (aP, .inl (cB, 400, .inl ft))] H := hP
            have hD : va_D A [(h, oX11 th aw ai ab ac hi re aP ta x178 en x179 6 fa a5 x180 av an ak ne aW aC ag aT aN aF), (aw, kcI cI 2179 g181), (aP, .inl (cB, 400, .inl ft))] := hD
            obtain ⟨k182, k183, k184, k185, k186, k187, k188, hw⟩ := hw
            rcases hw with rfl | ⟨rfl, kc189_0⟩
            · skip
              refine lv_if_ne (tgt := 161) hx hb dX11_readAtom_156 (by decide) (fun c190 => absurd (by decide) c190) (fun _ => ?_)
              refine lv_iconst (v := 0) hx hb dX11_readAtom_159 (by decide) ?_
              have hP9 := hP.sub (ws' := [(h, oX11 th aw ai ab ac hi re aP ta x178 en x179 6 fa a5 x180 av an ak ne aW aC ag aT aN aF), (aw, kcI cI 2179 g181), (aP, .inl (cB, 400, .inl ft))]) [0, 1, 2] rfl
              have hD9 := hD.sub (ws' := [(h, oX11 th aw ai ab ac hi re aP ta x178 en x179 6 fa a5 x180 av an ak ne aW aC ag aT aN aF), (aw, kcI cI 2179 g181), (aP, .inl (cB, 400, .inl ft))]) [0, 1, 2] (by decide) rfl
              exact W.zret (v := 0) hx hb hr (by decide) (fun t ht hW => ⟨⟨0, (x178, x179, x180, g181), rfl, ⟨k182, k183, k184, k185, k186, k187, (kC_eq k6 (kC_eq rfl (kif_t rfl (kC_eq k18 (kC_eq rfl (kif_t rfl (kC_eq k33 (kC_eq rfl (kC_eq rfl (kC_eq rfl (kif_t rfl (kC_eq k49 (kC_eq rfl (kC_eq rfl (kC_eq rfl (kif_f (by decide) (kC_eq k58 (kC_eq rfl (kif_f (by decide) (kC_eq k188 (kC_eq rfl (kC_eq rfl (kC_eq rfl (kif_t rfl rfl)))))))))))))))))))))))), (Or.inl rfl)⟩, by rw [ht]; exact hP9, va_K.moved hW.alike hK, hD9⟩, hS.F ht⟩) hS.2.2 dX11_readAtom_160
            · skip
              refine lv_if_ne (tgt := 161) hx hb dX11_readAtom_156 (by decide) (fun _ => ?_) (fun c191 => absurd c191 (by decide))
              refine lv_aload_n hx hb dX11_readAtom_161 rfl (lv_at hl 1 rfl) ?_
              refine lv_iload_n hx hb dX11_readAtom_162 rfl (lv_at hl 0 rfl) ?_
              refine lv_if_eq (tgt := 171) hx hb dX11_readAtom_163 (by decide) (fun c193 => absurd c193 (by decide)) (fun _ => ?_)
              refine lv_bipush (v := 14) hx hb dX11_readAtom_166 (by decide) ?_
              refine lv_goto (tgt := 173) hx hb dX11_readAtom_168 (by decide) ?_
              refine lv_iconst (v := 0) hx hb dX11_readAtom_173 (by decide) ?_
              have k194 : (x180 : Int32).toInt + 5 ≤ (x178 : Int32).toInt := (by have q0 := H_SP; have q1 := kc7_0; have q3 := kc19_0; have q4 := k21; obtain ⟨-, -, u5, v5, w5⟩ := kc34_0; have q6 := k36; obtain ⟨-, -, u7, v7, w7⟩ := kc50_0; have q8 := kc59_1; have q9 := k175; obtain ⟨-, -, u10, v10, w10⟩ := kc189_0; have q11 := k184; have q12 := k182; have q13 : (0 : Int32).toInt = 0 := (by decide); have q14 : (1 : Int32).toInt = 1 := (by decide); unfold Rg at *; omega)
              have k195 : Rg x180 0 395 := (by have q1 := k194; have q2 := k184; have q3 := k182; unfold Rg at *; exact ⟨by omega, by omega⟩)
              refine kcallv (wc := [(h, oX11 th aw ai ab ac hi re aP ta x178 en x179 6 fa a5 x180 av an ak ne aW aC ag aT aN aF), (aw, kcI cI 2179 g181)]) (wr := [(aP, .inl (cB, 400, .inl ft))]) hP hD hS hA [0, 1] [2] rfl rfl (by decide) (by decide) (by decide) (fun hPc hDc hFc => va_runV (As := [.int 14, .int 0]) (rest := []) ⟨hx, hb, hml, hown, hts⟩ (r_emits l D cI cJ cB cC h th aw ai ab ac hi re aP ta x178 en x179 6 fa a5 x180 av an ak ne aW aC ag aT aN aF g181 14 0 H.size (rg_w k195 (by decide)) k187 k185 k186) (cwV 2 hts gX11_readAtom_X11_emits rfl rfl rfl ⟨rfl, hdX11_emits⟩ ⟨Nat.le_of_ble_eq_true rfl, Nat.le_of_ble_eq_true rfl⟩) ⟨kBlind, va_recv hK hPc (ci := 10) (q0 := 0) rfl rfl, fun U hU hW => ⟨rfl, by rw [hU], hN.warm hW, hE.pass hS hFc hW hU, by rw [hU]; exact hPc, va_K.moved hW.alike hK, hDc⟩⟩ rfl rfl hl.1 rfl (lv_room (Nat.le_of_ble_eq_true rfl)) dX11_readAtom_174 ⟨Nat.le_of_ble_eq_true rfl, Nat.le_of_ble_eq_true rfl⟩) (fun u H locs hw hP hD hS => ?_)
              obtain ⟨x196, g197⟩ := u
              have hP : va_P D vwCl [(aP, .inl (cB, 400, .inl ft)), (h, oX11 th aw ai ab ac hi re aP ta x178 en x179 6 fa a5 x196 av an ak ne aW aC ag aT aN aF), (aw, kcI cI 2179 g197)] H := hP
              have hD : va_D A [(aP, .inl (cB, 400, .inl ft)), (h, oX11 th aw ai ab ac hi re aP ta x178 en x179 6 fa a5 x196 av an ak ne aW aC ag aT aN aF), (aw, kcI cI 2179 g197)] := hD
              obtain ⟨k198, k199, k200, k201, k202, k203⟩ := hw
              refine lv_iconst (v := 1) hx hb dX11_readAtom_177 (by decide) ?_
              have hP9 := hP.sub (ws' := [(h, oX11 th aw ai ab ac hi re aP ta x178 en x179 6 fa a5 x196 av an ak ne aW aC ag aT aN aF), (aw, kcI cI 2179 g197), (aP, .inl (cB, 400, .inl ft))]) [1, 2, 0] rfl
              have hD9 := hD.sub (ws' := [(h, oX11 th aw ai ab ac hi re aP ta x178 en x179 6 fa a5 x196 av an ak ne aW aC ag aT aN aF), (aw, kcI cI 2179 g197), (aP, .inl (cB, 400, .inl ft))]) [1, 2, 0] (by decide) rfl
              exact W.zret (v := 1) hx hb hr (by decide) (fun t ht hW => ⟨⟨1, (x178, x179, x196, g197), rfl, ⟨k182, k183, (rg_w k198 (by decide)), k199, k200, k201, (kC_eq k6 (kC_eq rfl (kif_t rfl (kC_eq k18 (kC_eq rfl (kif_t rfl (kC_eq k33 (kC_eq rfl (kC_eq rfl (kC_eq rfl (kif_t rfl (kC_eq k49 (kC_eq rfl (kC_eq rfl (kC_eq rfl (kif_f (by decide) (kC_eq k58 (kC_eq rfl (kif_f (by decide) (kC_eq k188 (kC_eq rfl (kC_eq rfl (kC_eq rfl (kif_f (by decide) (kC_eq k203 rfl))))))))))))))))))))))))), (Or.inr ⟨rfl, (rOk_bin (rOk_le (rOk_tr kc34_0 kc50_0 (Int.le_refl _)) (by have q0 := H_SP; have q1 := kc7_0; have q3 := kc19_0; have q4 := k21; obtain ⟨-, -, u5, v5, w5⟩ := kc34_0; have q6 := k36; obtain ⟨-, -, u7, v7, w7⟩ := kc50_0; have q8 := kc59_1; have q9 := k175; obtain ⟨-, -, u10, v10, w10⟩ := kc189_0; have q11 := k194; obtain ⟨-, -, u12, -⟩ := k202; have q14 : (0 : Int32).toInt = 0 := (by decide); have q15 : (1 : Int32).toInt = 1 := (by decide); unfold Rg at *; omega) (Int.le_refl _)) (by have q0 := H_SP; have q1 := kc7_0; have q3 := kc19_0; have q4 := k21; obtain ⟨-, -, u5, v5, w5⟩ := kc34_0; have q6 := k36; obtain ⟨-, -, u7, v7, w7⟩ := kc50_0; have q8 := kc59_1; have q9 := k175; obtain ⟨-, -, u10, v10, w10⟩ := kc189_0; have q11 := k194; obtain ⟨-, -, u12, -⟩ := k202; have q14 : (0 : Int32).toInt = 0 := (by decide); have q15 : (1 : Int32).toInt = 1 := (by decide); unfold Rg at *; omega) kc189_0 k202 (by decide) (by decide)), (by decide)⟩)⟩, by rw [ht]; exact hP9, va_K.moved hW.alike hK, hD9⟩, hS.F ht⟩) hS.2.2 dX11_readAtom_178
      · skip
        refine lv_if_eq (tgt := 123) hx hb dX11_readAtom_118 (by decide) (fun c204 => absurd c204 (by decide)) (fun _ => ?_)
        refine lv_iconst (v := 1) hx hb dX11_readAtom_121 (by decide) ?_
        have hP9 := hP.sub (ws' := [(h, oX11 th aw ai ab ac hi re aP ta x23 en x24 6 fa a5 x25 av an ak ne aW aC ag aT aN aF), (aw, kcI cI 2179 g26), (aP, .inl (cB, 400, .inl ft))]) [0, 1, 2] rfl
        have hD9 := hD.sub (ws' := [(h, oX11 th aw ai ab ac hi re aP ta x23 en x24 6 fa a5 x25 av an ak ne aW aC ag aT aN aF), (aw, kcI cI 2179 g26), (aP, .inl (cB, 400, .inl ft))]) [0, 1, 2] (by decide) rfl
        exact W.zret (v := 1) hx hb hr (by decide) (fun t ht hW => ⟨⟨1, (x23, x24, x25, g26), rfl, ⟨k27, k28, k29, k30, k31, k32, (kC_eq k6 (kC_eq rfl (kif_t rfl (kC_eq k18 (kC_eq rfl (kif_t rfl (kC_eq k33 (kC_eq rfl (kC_eq rfl (kC_eq rfl (kif_f (by decide) rfl))))))))))), (Or.inr ⟨rfl, (rOk_le kc34_0 (by have q0 := H_SP; have q1 := kc7_0; have q3 := kc19_0; have q4 := k21; obtain ⟨-, -, u5, v5, w5⟩ := kc34_0; have q6 : (0 : Int32).toInt = 0 := (by decide); have q7 : (1 : Int32).toInt = 1 := (by decide); unfold Rg at *; omega) (by have q0 := H_SP; have q1 := kc7_0; have q3 := kc19_0; have q4 := k21; obtain ⟨-, -, u5, v5, w5⟩ := kc34_0; have q6 : (0 : Int32).toInt = 0 := (by decide); have q7 : (1 : Int32).toInt = 1 := (by decide); unfold Rg at *; omega)), (by decide)⟩)⟩, by rw [ht]; exact hP9, va_K.moved hW.alike hK, hD9⟩, hS.F ht⟩) hS.2.2 dX11_readAtom_122
    · skip
      refine lv_if_eq (tgt := 114) hx hb dX11_readAtom_62 (by decide) (fun c205 => absurd c205 (by decide)) (fun _ => ?_)
      refine lv_aload_n hx hb dX11_readAtom_65 rfl (lv_at hl 0 rfl) ?_
      refine va_get (D := D) (ci := 10) (v := .int 6) (C := RX11) (T := TX11) (N := 26) hx hb hts iG_X11 hown hK hP 1 rfl rfl 12 (by decide) (hts _ w21_17) (fun _ h9 => h9) rfl dX11_readAtom_66 ?_
      refine lv_bipush (v := 6) hx hb dX11_readAtom_69 (by decide) ?_
      refine lv_icmp_ne (tgt := 76) hx hb dX11_readAtom_71 (by decide) (fun c206 => absurd (by decide) c206) (fun _ => ?_)
      refine lv_iconst (v := 0) hx hb dX11_readAtom_74 (by decide) ?_
      have hP9 := hP.sub (ws' := [(h, oX11 th aw ai ab ac hi re aP ta x14 en x15 6 fa a5 sp av an ak ne aW aC ag aT aN aF), (aw, kcI cI 2179 fw), (aP, .inl (cB, 400, .inl ft))]) [1, 0, 2] rfl
      have hD9 := hD.sub (ws' := [(h, oX11 th aw ai ab ac hi re aP ta x14 en x15 6 fa a5 sp av an ak ne aW aC ag aT aN aF), (aw, kcI cI 2179 fw), (aP, .inl (cB, 400, .inl ft))]) [1, 0, 2] (by decide) rfl
      exact W.zret (v := 0) hx hb hr (by decide) (fun t ht hW => ⟨⟨0, (x14, x15, sp, fw), rfl, ⟨k16, k17, (rg_w H_sp (by decide)), H_fw_B, H_fw_L, H_fw_W, (kC_eq k6 (kC_eq rfl (kif_t rfl (kC_eq k18 (kC_eq rfl (kif_f (by decide) rfl)))))), (Or.inl rfl)⟩, by rw [ht]; exact hP9, va_K.moved hW.alike hK, hD9⟩, hS.F ht⟩) hS.2.2 dX11_readAtom_75
  · skip
    refine lv_if_eq (tgt := 56) hx hb dX11_readAtom_6 (by decide) (fun c207 => absurd c207 (by decide)) (fun _ => ?_)
    refine lv_aload_n hx hb dX11_readAtom_9 rfl (lv_at hl 0 rfl) ?_
    refine va_get (D := D) (ci := 10) (v := .int 6) (C := RX11) (T := TX11) (N := 26) hx hb hts iG_X11 hown hK hP 1 rfl rfl 12 (by decide) (hts _ w21_17) (fun _ h9 => h9) rfl dX11_readAtom_10 ?_
    refine lv_bipush (v := 6) hx hb dX11_readAtom_13 (by decide) ?_
    refine lv_icmp_ne (tgt := 20) hx hb dX11_readAtom_15 (by decide) (fun c208 => absurd (by decide) c208) (fun _ => ?_)
    refine lv_iconst (v := 0) hx hb dX11_readAtom_18 (by decide) ?_
    have hP9 := hP.sub (ws' := [(h, oX11 th aw ai ab ac hi re aP ta x2 en x3 6 fa a5 sp av an ak ne aW aC ag aT aN aF), (aw, kcI cI 2179 fw), (aP, .inl (cB, 400, .inl ft))]) [1, 0, 2] rfl
    have hD9 := hD.sub (ws' := [(h, oX11 th aw ai ab ac hi re aP ta x2 en x3 6 fa a5 sp av an ak ne aW aC ag aT aN aF), (aw, kcI cI 2179 fw), (aP, .inl (cB, 400, .inl ft))]) [1, 0, 2] (by decide) rfl
    exact W.zret (v := 0) hx hb hr (by decide) (fun t ht hW => ⟨⟨0, (x2, x3, sp, fw), rfl, ⟨k4, k5, (rg_w H_sp (by decide)), H_fw_B, H_fw_L, H_fw_W, (kC_eq k6 (kC_eq rfl (kif_f (by decide) rfl))), (Or.inl rfl)⟩, by rw [ht]; exact hP9, va_K.moved hW.alike hK, hD9⟩, hS.F ht⟩) hS.2.2 dX11_readAtom_19

