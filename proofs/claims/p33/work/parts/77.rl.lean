def kwX11_readLawLine : List Cond := .code yX11_readLawLine cX11_readLawLine 4 (some .boolean) :: kG
theorem hdX11_readLawLine : yX11_readLawLine.cls ≠ "java/lang/invoke/MethodHandle" ∧ yX11_readLawLine.cls ≠ "java/lang/invoke/VarHandle" ∧ (parseMethodDescriptor yX11_readLawLine.desc).map (fun d => d.parameters.length) = some 1 := by decide +kernel
theorem gX11_readLawLine_X11_isWord : GoodIn kG (wsV RX11 114 RX11 yX11_isWord kwX11_isWord) := gK w19_7 (gK w19_8 (gK w19_9 (gK w0_5 (gK w19_10 gGG))))
theorem gX11_readLawLine_X11_number : GoodIn kG (wsV RX11 118 RX11 yX11_number kwX11_number) := gK w19_21 (gK w19_22 (gK w19_23 (gK w0_5 (gK w20_0 gGG))))
theorem gX11_readLawLine_X11_passes : GoodIn kG (wsV RX11 216 RX11 yX11_passes kwX11_passes) := gK w21_18 (gK w21_19 (gK w21_20 (gK w0_5 (gK w21_21 gGG))))
theorem gX11_readLawLine_X11_readCond : GoodIn kG (wsV RX11 211 RX11 yX11_readCond kwX11_readCond) := gK w21_22 (gK w21_23 (gK w22_0 (gK w0_5 (gK w22_1 gGG))))
theorem dX11_readLawLine_0 : decode cX11_readLawLine 0 = .ok (.sipush 1343, 3) := by decide +kernel
theorem dX11_readLawLine_3 : decode cX11_readLawLine 3 = .ok (.iconst 3, 1) := by decide +kernel
theorem dX11_readLawLine_4 : decode cX11_readLawLine 4 = .ok (.iload_n 1, 1) := by decide +kernel
theorem dX11_readLawLine_5 : decode cX11_readLawLine 5 = .ok (.imul, 1) := by decide +kernel
theorem dX11_readLawLine_6 : decode cX11_readLawLine 6 = .ok (.iadd, 1) := by decide +kernel
theorem dX11_readLawLine_7 : decode cX11_readLawLine 7 = .ok (.istore_n 2, 1) := by decide +kernel
theorem dX11_readLawLine_8 : decode cX11_readLawLine 8 = .ok (.aload_n 0, 1) := by decide +kernel
theorem dX11_readLawLine_9 : decode cX11_readLawLine 9 = .ok (.ldc 235, 2) := by decide +kernel
theorem dX11_readLawLine_11 : decode cX11_readLawLine 11 = .ok (.invokevirtual 114, 3) := by decide +kernel
theorem dX11_readLawLine_14 : decode cX11_readLawLine 14 = .ok (.istore_n 3, 1) := by decide +kernel
theorem dX11_readLawLine_15 : decode cX11_readLawLine 15 = .ok (.iload_n 3, 1) := by decide +kernel
theorem dX11_readLawLine_16 : decode cX11_readLawLine 16 = .ok (.ifCond .ne 14, 3) := by decide +kernel
theorem dX11_readLawLine_19 : decode cX11_readLawLine 19 = .ok (.aload_n 0, 1) := by decide +kernel
theorem dX11_readLawLine_20 : decode cX11_readLawLine 20 = .ok (.ldc 237, 2) := by decide +kernel
theorem dX11_readLawLine_22 : decode cX11_readLawLine 22 = .ok (.invokevirtual 114, 3) := by decide +kernel
theorem dX11_readLawLine_25 : decode cX11_readLawLine 25 = .ok (.ifCond .ne 5, 3) := by decide +kernel
theorem dX11_readLawLine_28 : decode cX11_readLawLine 28 = .ok (.iconst 0, 1) := by decide +kernel
theorem dX11_readLawLine_29 : decode cX11_readLawLine 29 = .ok (.ireturn, 1) := by decide +kernel
theorem dX11_readLawLine_30 : decode cX11_readLawLine 30 = .ok (.aload_n 0, 1) := by decide +kernel
theorem dX11_readLawLine_31 : decode cX11_readLawLine 31 = .ok (.getfield 13, 3) := by decide +kernel
theorem dX11_readLawLine_34 : decode cX11_readLawLine 34 = .ok (.iload_n 2, 1) := by decide +kernel
theorem dX11_readLawLine_35 : decode cX11_readLawLine 35 = .ok (.iload_n 3, 1) := by decide +kernel
theorem dX11_readLawLine_36 : decode cX11_readLawLine 36 = .ok (.ifCond .eq 14, 3) := by decide +kernel
theorem dX11_readLawLine_39 : decode cX11_readLawLine 39 = .ok (.aload_n 0, 1) := by decide +kernel
theorem dX11_readLawLine_40 : decode cX11_readLawLine 40 = .ok (.iconst 0, 1) := by decide +kernel
theorem dX11_readLawLine_41 : decode cX11_readLawLine 41 = .ok (.sipush 999, 3) := by decide +kernel
theorem dX11_readLawLine_44 : decode cX11_readLawLine 44 = .ok (.invokevirtual 118, 3) := by decide +kernel
theorem dX11_readLawLine_47 : decode cX11_readLawLine 47 = .ok (.goto 4, 3) := by decide +kernel
theorem dX11_readLawLine_50 : decode cX11_readLawLine 50 = .ok (.iconst (-1), 1) := by decide +kernel
theorem dX11_readLawLine_51 : decode cX11_readLawLine 51 = .ok (.iastore, 1) := by decide +kernel
theorem dX11_readLawLine_52 : decode cX11_readLawLine 52 = .ok (.iload_n 3, 1) := by decide +kernel
theorem dX11_readLawLine_53 : decode cX11_readLawLine 53 = .ok (.ifCond .eq 14, 3) := by decide +kernel
theorem dX11_readLawLine_56 : decode cX11_readLawLine 56 = .ok (.aload_n 0, 1) := by decide +kernel
theorem dX11_readLawLine_57 : decode cX11_readLawLine 57 = .ok (.getfield 13, 3) := by decide +kernel
theorem dX11_readLawLine_60 : decode cX11_readLawLine 60 = .ok (.iload_n 2, 1) := by decide +kernel
theorem dX11_readLawLine_61 : decode cX11_readLawLine 61 = .ok (.iaload, 1) := by decide +kernel
theorem dX11_readLawLine_62 : decode cX11_readLawLine 62 = .ok (.ifCond .ge 5, 3) := by decide +kernel
theorem dX11_readLawLine_65 : decode cX11_readLawLine 65 = .ok (.iconst 0, 1) := by decide +kernel
theorem dX11_readLawLine_66 : decode cX11_readLawLine 66 = .ok (.ireturn, 1) := by decide +kernel
theorem dX11_readLawLine_67 : decode cX11_readLawLine 67 = .ok (.aload_n 0, 1) := by decide +kernel
theorem dX11_readLawLine_68 : decode cX11_readLawLine 68 = .ok (.getfield 13, 3) := by decide +kernel
theorem dX11_readLawLine_71 : decode cX11_readLawLine 71 = .ok (.iload_n 2, 1) := by decide +kernel
theorem dX11_readLawLine_72 : decode cX11_readLawLine 72 = .ok (.iconst 1, 1) := by decide +kernel
theorem dX11_readLawLine_73 : decode cX11_readLawLine 73 = .ok (.iadd, 1) := by decide +kernel
theorem dX11_readLawLine_74 : decode cX11_readLawLine 74 = .ok (.aload_n 0, 1) := by decide +kernel
theorem dX11_readLawLine_75 : decode cX11_readLawLine 75 = .ok (.getfield 181, 3) := by decide +kernel
theorem dX11_readLawLine_78 : decode cX11_readLawLine 78 = .ok (.iastore, 1) := by decide +kernel
theorem dX11_readLawLine_79 : decode cX11_readLawLine 79 = .ok (.aload_n 0, 1) := by decide +kernel
theorem dX11_readLawLine_80 : decode cX11_readLawLine 80 = .ok (.iconst 0, 1) := by decide +kernel
theorem dX11_readLawLine_81 : decode cX11_readLawLine 81 = .ok (.putfield 208, 3) := by decide +kernel
theorem dX11_readLawLine_84 : decode cX11_readLawLine 84 = .ok (.aload_n 0, 1) := by decide +kernel
theorem dX11_readLawLine_85 : decode cX11_readLawLine 85 = .ok (.ldc 239, 2) := by decide +kernel
theorem dX11_readLawLine_87 : decode cX11_readLawLine 87 = .ok (.invokevirtual 216, 3) := by decide +kernel
theorem dX11_readLawLine_90 : decode cX11_readLawLine 90 = .ok (.ifCond .eq 12, 3) := by decide +kernel
theorem dX11_readLawLine_93 : decode cX11_readLawLine 93 = .ok (.aload_n 0, 1) := by decide +kernel
theorem dX11_readLawLine_94 : decode cX11_readLawLine 94 = .ok (.invokevirtual 211, 3) := by decide +kernel
theorem dX11_readLawLine_97 : decode cX11_readLawLine 97 = .ok (.ifCond .ne 5, 3) := by decide +kernel
theorem dX11_readLawLine_100 : decode cX11_readLawLine 100 = .ok (.iconst 0, 1) := by decide +kernel
theorem dX11_readLawLine_101 : decode cX11_readLawLine 101 = .ok (.ireturn, 1) := by decide +kernel
theorem dX11_readLawLine_102 : decode cX11_readLawLine 102 = .ok (.aload_n 0, 1) := by decide +kernel
theorem dX11_readLawLine_103 : decode cX11_readLawLine 103 = .ok (.getfield 13, 3) := by decide +kernel
theorem dX11_readLawLine_106 : decode cX11_readLawLine 106 = .ok (.iload_n 2, 1) := by decide +kernel
theorem dX11_readLawLine_107 : decode cX11_readLawLine 107 = .ok (.iconst 2, 1) := by decide +kernel
theorem dX11_readLawLine_108 : decode cX11_readLawLine 108 = .ok (.iadd, 1) := by decide +kernel
theorem dX11_readLawLine_109 : decode cX11_readLawLine 109 = .ok (.aload_n 0, 1) := by decide +kernel
theorem dX11_readLawLine_110 : decode cX11_readLawLine 110 = .ok (.getfield 181, 3) := by decide +kernel
theorem dX11_readLawLine_113 : decode cX11_readLawLine 113 = .ok (.iastore, 1) := by decide +kernel
theorem dX11_readLawLine_114 : decode cX11_readLawLine 114 = .ok (.iconst 1, 1) := by decide +kernel
theorem dX11_readLawLine_115 : decode cX11_readLawLine 115 = .ok (.ireturn, 1) := by decide +kernel
set_option maxHeartbeats 4000000 in
set_option maxRecDepth 100000 in
/-- reference: readLawLine -/
theorem r_readLawLine (l : Launch) (D : va_G) (cI cJ cB cC : ClassId) (h : Nat) (th : Int32) (aw : Nat) (ai : Nat) (ab : Nat) (ac : Nat) (hi : Int32) (re : Int32) (aP : Nat) (ta : Int32) (po : Int32) (en : Int32) (be : Int32) (de : Int32) (fa : Int32) (a5 : Nat) (sp : Int32) (av : Nat) (an : Nat) (ak : Nat) (ne : Int32) (aW : Nat) (aC : Nat) (ag : Nat) (aT : Nat) (aN : Nat) (aF : Nat) (fw : Nat → Int32) (ft : Nat → Int32) (n : Int32) (sz : Nat) (H_po : Rg po 0 400) (H_en : Rg en 0 400) (H_be : Rg be 0 400) (H_sp : Rg sp 0 400) (H_n : Rg n 0 11) (H_fw_W : wW fw) (H_fw_B : wB fw) (H_fw_L : wL fw) (H_SB : (sp : Int32).toInt ≤ (be : Int32).toInt) : Met l yX11_readLawLine kwX11_readLawLine ({ frames := 28, cells := 0, slots := 0, locals := 576 } : Room) (kPre D (kT cI cJ cB cC) sz [(h, oX11 th aw ai ab ac hi re aP ta po en be de fa a5 sp av an ak ne aW aC ag aT aN aF), (aw, .inl (cI, 2179, .inl fw)), (aP, .inl (cB, 400, .inl ft))] [.ref h, .int n]) (va_Qi (fun (r : Int32) (uu : Int32 × Int32 × Int32 × Int32 × (Nat → Int32)) => match uu with | (n0_, n1_, n2_, n3_, f4_) => Rg n0_ 0 400 ∧ Rg n1_ 0 400 ∧ Rg n3_ 0 400 ∧ wB f4_ ∧ wL f4_ ∧ wW f4_ ∧ ((r = 0) ∨ (r = 1 ∧ rLn fw f4_ n sp n3_ ∧ (n3_ : Int32).toInt ≤ (n0_ : Int32).toInt))) (fun (uu : Int32 × Int32 × Int32 × Int32 × (Nat → Int32)) (t : State) => match uu with | (n0_, n1_, n2_, n3_, f4_) => kB D (kT cI cJ cB cC) (va_A [(h, oX11 th aw ai ab ac hi re aP ta po en be de fa a5 sp av an ak ne aW aC ag aT aN aF), (aw, .inl (cI, 2179, .inl fw)), (aP, .inl (cB, 400, .inl ft))] sz) [(h, oX11 th aw ai ab ac hi re aP ta n0_ en n1_ n2_ fa a5 n3_ av an ak ne aW aC ag aT aN aF), (aw, .inl (cI, 2179, .inl f4_)), (aP, .inl (cB, 400, .inl ft))] t) (va_A [(h, oX11 th aw ai ab ac hi re aP ta po en be de fa a5 sp av an ak ne aW aC ag aT aN aF), (aw, .inl (cI, 2179, .inl fw)), (aP, .inl (cB, 400, .inl ft))] sz)) 0 0 (va_A [(h, oX11 th aw ai ab ac hi re aP ta po en be de fa a5 sp av an ak ne aW aC ag aT aN aF), (aw, .inl (cI, 2179, .inl fw)), (aP, .inl (cB, 400, .inl ft))] sz) := by
  refine Met.ofW (cc := cX11_readLawLine) (maxL := 4) (ret := (some .boolean)) (by decide) rfl ?_
  intro p e s m args below meth c s₁ B hml hv
  obtain ⟨rfl, hsz, hN, hE, hP, hK, hD0⟩ := hv
  have hx := B.exec
  have hb := B.bytes
  have hr := B.returns
  have hts := fun (w : Cond) (h : w ∈ kG) => atoms_spec (ws := kwX11_readLawLine) B.pre w (List.mem_cons_of_mem _ h)
  have hown : s.vm.findClass RX11 = some m.cls := findClass_of_methodNamed B.named
  subst hsz
  have hD := hD0.self (sz := s.heap.size)
  generalize hAe : va_A [(h, oX11 th aw ai ab ac hi re aP ta po en be de fa a5 sp av an ak ne aW aC ag aT aN aF), (aw, .inl (cI, 2179, .inl fw)), (aP, .inl (cB, 400, .inl ft))] s.heap.size = A at hD hE ⊢
  have hA : ∀ q : Nat, s.heap.size ≤ q → A q := fun q h => by rw [← hAe]; exact Or.inr h
  have hl := lv_entry ([.ref h, .int n]) (n := 4) (Nat.le_of_ble_eq_true rfl)
  rw [lg_entry_eq]
  generalize (lg_sl ([.ref h, .int n]) ++ List.replicate (4 - (lg_sl ([.ref h, .int n])).length) Slot.unset).toArray = ls at hl ⊢
  have hl : lv_has ls 4 [(0, .ref h), (1, .int n)] := hl
  obtain ⟨H, hH0⟩ : ∃ H, H = s.heap := ⟨_, rfl⟩
  have hS : va_S A s.heap H [] := by rw [hH0]; exact va_S.rf
  have hP : va_P D vwCl [(h, oX11 th aw ai ab ac hi re aP ta po en be de fa a5 sp av an ak ne aW aC ag aT aN aF), (aw, .inl (cI, 2179, .inl fw)), (aP, .inl (cB, 400, .inl ft))] H := by rw [hH0]; exact hP
  refine kHeap hH0 ?_
  clear hH0
  refine lv_sipush (v := 1343) hx hb dX11_readLawLine_0 (by decide) ?_
  refine lv_iconst (v := 3) hx hb dX11_readLawLine_3 (by decide) ?_
  refine lv_iload_n hx hb dX11_readLawLine_4 rfl (lv_at hl 1 rfl) ?_
  refine lv_imul hx hb dX11_readLawLine_5 ?_
  refine lv_topi (fun x1 ex1 => ?_)
  have tx1 : x1.toInt = 3 * n.toInt := ti_mul ex1 (rg_lit (n := 3) (by decide)) H_n (by decide) (by decide) rfl
  have k2 : Rg x1 0 33 := rg_mul ex1 (rg_lit (n := 3) (by decide)) H_n (by decide)
  refine lv_iadd hx hb dX11_readLawLine_6 ?_
  refine lv_topi (fun x3 ex3 => ?_)
  have tx3 : x3.toInt = 1343 + x1.toInt := ti_add ex3 (rg_lit (n := 1343) (by decide)) k2 (by decide) (by decide) rfl
  have k4 : Rg x3 1343 1376 := rg_add ex3 (rg_lit (n := 1343) (by decide)) k2 (by decide)
  refine lv_istore_n (lv' := [(2, .int x3), (0, .ref h), (1, .int n)]) hx hb dX11_readLawLine_7 rfl hl (by decide) rfl (fun ls hl => ?_)
  refine lv_aload_n hx hb dX11_readLawLine_8 rfl (lv_at hl 1 rfl) ?_
  obtain ⟨q5, q6, hR7, hT8⟩ := kTx_16 hE.2.2
  refine va_ldcS hx hb hown hR7 dX11_readLawLine_9 ?_
  refine kpurei (wc := [(h, oX11 th aw ai ab ac hi re aP ta po en be de fa a5 sp av an ak ne aW aC ag aT aN aF), (aP, .inl (cB, 400, .inl ft))]) hP hD hS hA [0, 2] rfl (by decide) (fun hPc hDc hFc => va_runV (As := [.ref q5]) (rest := []) ⟨hx, hb, hml, hown, hts⟩ (r_isWord l D cI cJ cB cC h th aw ai ab ac hi re aP ta po en be de fa a5 sp av an ak ne aW aC ag aT aN aF ft q5 kSb16 q6 H.size H_po H_en H_be kSb16_le) (cwV 1 hts gX11_readLawLine_X11_isWord rfl rfl rfl ⟨rfl, hdX11_isWord⟩ ⟨Nat.le_of_ble_eq_true rfl, Nat.le_of_ble_eq_true rfl⟩) ⟨kBlindT, va_recv hK hPc (ci := 10) (q0 := 0) rfl rfl, fun U hU hW => ⟨rfl, by rw [hU], hN.warm hW, hE.pass hS hFc hW hU, hT8.pass hS hFc hW hU, by rw [hU]; exact hPc, va_K.moved hW.alike hK, hDc⟩⟩ rfl rfl hl.1 rfl (lv_room (Nat.le_of_ble_eq_true rfl)) dX11_readLawLine_11 ⟨Nat.le_of_ble_eq_true rfl, Nat.le_of_ble_eq_true rfl⟩) (fun r9 u H locs hw hP hS => ?_)
  obtain ⟨k10, k11⟩ := hw
  refine lv_istore_n (lv' := [(3, .int r9), (2, .int x3), (0, .ref h), (1, .int n)]) hx hb dX11_readLawLine_14 rfl hl (by decide) rfl (fun ls hl => ?_)
  refine lv_iload_n hx hb dX11_readLawLine_15 rfl (lv_at hl 0 rfl) ?_
  refine lv_if_ne (tgt := 30) hx hb dX11_readLawLine_16 (by decide) (fun c25 => ?_) (fun c25 => ?_)
  · skip
    have k26 : Rg r9 1 1 := rg_n1 (neI c25) k10 (rg_lit (n := 0) (by decide)) (by decide)
    refine lv_aload_n hx hb dX11_readLawLine_30 rfl (lv_at hl 2 rfl) ?_
    refine va_get (D := D) (ci := 10) (v := .ref aw) (C := RX11) (T := TX11) (N := 26) hx hb hts iG_X11 hown hK hP 0 rfl rfl 1 (by decide) (hts _ w5_3) (fun _ h9 => h9) rfl dX11_readLawLine_31 ?_
    refine lv_iload_n hx hb dX11_readLawLine_34 rfl (lv_at hl 1 rfl) ?_
    refine lv_iload_n hx hb dX11_readLawLine_35 rfl (lv_at hl 0 rfl) ?_
    refine lv_if_eq (tgt := 50) hx hb dX11_readLawLine_36 (by decide) (fun c36 => absurd c36 (rg_neq k26 (rg_lit (n := 0) (by decide)) (by decide))) (fun _ => ?_)
    refine lv_aload_n hx hb dX11_readLawLine_39 rfl (lv_at hl 2 rfl) ?_
    refine lv_iconst (v := 0) hx hb dX11_readLawLine_40 (by decide) ?_
    refine lv_sipush (v := 999) hx hb dX11_readLawLine_41 (by decide) ?_
    refine kcalli (wc := [(h, oX11 th aw ai ab ac hi re aP ta po en be de fa a5 sp av an ak ne aW aC ag aT aN aF), (aP, .inl (cB, 400, .inl ft))]) (wr := [(aw, .inl (cI, 2179, .inl fw))]) hP hD hS hA [0, 2] [1] rfl rfl (by decide) (by decide) (by decide) (fun hPc hDc hFc => va_runV (As := [.int 0, .int 999]) (rest := [.int x3, .ref aw]) ⟨hx, hb, hml, hown, hts⟩ (r_number_999 l D cI cJ cB cC h th aw ai ab ac hi re aP ta po en be de fa a5 sp av an ak ne aW aC ag aT aN aF ft H.size H_po H_en) (cwV 2 hts gX11_readLawLine_X11_number rfl rfl rfl ⟨rfl, hdX11_number⟩ ⟨Nat.le_of_ble_eq_true rfl, Nat.le_of_ble_eq_true rfl⟩) ⟨kBlind, va_recv hK hPc (ci := 10) (q0 := 0) rfl rfl, fun U hU hW => ⟨rfl, by rw [hU], hN.warm hW, hE.pass hS hFc hW hU, by rw [hU]; exact hPc, va_K.moved hW.alike hK, hDc⟩⟩ rfl rfl hl.1 rfl (lv_room (Nat.le_of_ble_eq_true rfl)) dX11_readLawLine_44 ⟨Nat.le_of_ble_eq_true rfl, Nat.le_of_ble_eq_true rfl⟩) (fun r37 u H locs hw hP hD hS => ?_)
    obtain ⟨x38, x39⟩ := u
    have hP : va_P D vwCl [(aw, .inl (cI, 2179, .inl fw)), (h, oX11 th aw ai ab ac hi re aP ta x38 en x39 de fa a5 sp av an ak ne aW aC ag aT aN aF), (aP, .inl (cB, 400, .inl ft))] H := hP
    have hD : va_D A [(aw, .inl (cI, 2179, .inl fw)), (h, oX11 th aw ai ab ac hi re aP ta x38 en x39 de fa a5 sp av an ak ne aW aC ag aT aN aF), (aP, .inl (cB, 400, .inl ft))] := hD
    obtain ⟨k40, k41, k42, k43, k44⟩ := hw
    refine lv_goto (tgt := 51) hx hb dX11_readLawLine_47 (by decide) ?_
    refine va_iast hx hb hK hP hD hS 0 0 rfl rfl (rg_in k4 (by decide)) dX11_readLawLine_51 (fun H locs hP hD hS => ?_)
    have hP : va_P D vwCl [(aw, .inl (cI, 2179, .inl (upd fw x3.toNatClampNeg r37))), (h, oX11 th aw ai ab ac hi re aP ta x38 en x39 de fa a5 sp av an ak ne aW aC ag aT aN aF), (aP, .inl (cB, 400, .inl ft))] H := hP
    have hD : va_D A [(aw, .inl (cI, 2179, .inl (upd fw x3.toNatClampNeg r37))), (h, oX11 th aw ai ab ac hi re aP ta x38 en x39 de fa a5 sp av an ak ne aW aC ag aT aN aF), (aP, .inl (cB, 400, .inl ft))] := hD
    have k46 : wW (upd fw x3.toNatClampNeg r37) := wW_hi H_fw_W k4 (by decide)
    have k47 : wB (upd fw x3.toNatClampNeg r37) := wB_hi H_fw_B H_fw_W k4 (by decide)
    have k48 : wL (upd fw x3.toNatClampNeg r37) := wL_out H_fw_L k4 (by decide)
    generalize hg45 : (upd fw x3.toNatClampNeg r37) = g45 at hP hD k46 k47 k48
    refine lv_iload_n hx hb dX11_readLawLine_52 rfl (lv_at hl 0 rfl) ?_
    refine lv_if_eq (tgt := 67) hx hb dX11_readLawLine_53 (by decide) (fun c54 => absurd c54 (rg_neq k26 (rg_lit (n := 0) (by decide)) (by decide))) (fun _ => ?_)
    refine lv_aload_n hx hb dX11_readLawLine_56 rfl (lv_at hl 2 rfl) ?_
    refine va_get (D := D) (ci := 10) (v := .ref aw) (C := RX11) (T := TX11) (N := 26) hx hb hts iG_X11 hown hK hP 1 rfl rfl 1 (by decide) (hts _ w5_3) (fun _ h9 => h9) rfl dX11_readLawLine_57 ?_
    refine lv_iload_n hx hb dX11_readLawLine_60 rfl (lv_at hl 1 rfl) ?_
    refine va_iald hx hb hK hP 0 0 rfl rfl (rg_in k4 (by decide)) dX11_readLawLine_61 ?_
    refine lv_topi (fun x55 ex55 => ?_)
    refine lv_if_ge (tgt := 67) hx hb dX11_readLawLine_62 (by decide) (fun c56 => ?_) (fun c56 => ?_)
    · skip
      have k57 : Rg x55 0 2147483647 := rg_e2 (leI c56) (rg_lit (n := 0) (by decide)) (rg_any x55) (by decide)
      refine lv_aload_n hx hb dX11_readLawLine_67 rfl (lv_at hl 2 rfl) ?_
      refine va_get (D := D) (ci := 10) (v := .ref aw) (C := RX11) (T := TX11) (N := 26) hx hb hts iG_X11 hown hK hP 1 rfl rfl 1 (by decide) (hts _ w5_3) (fun _ h9 => h9) rfl dX11_readLawLine_68 ?_
      refine lv_iload_n hx hb dX11_readLawLine_71 rfl (lv_at hl 1 rfl) ?_
      refine lv_iconst (v := 1) hx hb dX11_readLawLine_72 (by decide) ?_
      refine lv_iadd hx hb dX11_readLawLine_73 ?_
      refine lv_topi (fun x58 ex58 => ?_)
      have tx58 : x58.toInt = x3.toInt + 1 := ti_add ex58 k4 (rg_lit (n := 1) (by decide)) (by decide) rfl (by decide)
      have k59 : Rg x58 1344 1377 := rg_add ex58 k4 (rg_lit (n := 1) (by decide)) (by decide)
      refine lv_aload_n hx hb dX11_readLawLine_74 rfl (lv_at hl 2 rfl) ?_
      refine va_get (D := D) (ci := 10) (v := .int sp) (C := RX11) (T := TX11) (N := 26) hx hb hts iG_X11 hown hK hP 1 rfl rfl 15 (by decide) (hts _ w18_4) (fun _ h9 => h9) rfl dX11_readLawLine_75 ?_
      refine va_iast hx hb hK hP hD hS 0 0 rfl rfl (rg_in k59 (by decide)) dX11_readLawLine_78 (fun H locs hP hD hS => ?_)
      have hP : va_P D vwCl [(aw, .inl (cI, 2179, .inl (upd g45 x58.toNatClampNeg sp))), (h, oX11 th aw ai ab ac hi re aP ta x38 en x39 de fa a5 sp av an ak ne aW aC ag aT aN aF), (aP, .inl (cB, 400, .inl ft))] H := hP
      have hD : va_D A [(aw, .inl (cI, 2179, .inl (upd g45 x58.toNatClampNeg sp))), (h, oX11 th aw ai ab ac hi re aP ta x38 en x39 de fa a5 sp av an ak ne aW aC ag aT aN aF), (aP, .inl (cB, 400, .inl ft))] := hD
      have k61 : wW (upd g45 x58.toNatClampNeg sp) := wW_hi k46 k59 (by decide)
      have k62 : wB (upd g45 x58.toNatClampNeg sp) := wB_hi k47 k46 k59 (by decide)
      have k63 : wL (upd g45 x58.toNatClampNeg sp) := wL_out k48 k59 (by decide)
      generalize hg60 : (upd g45 x58.toNatClampNeg sp) = g60 at hP hD k61 k62 k63
      refine lv_aload_n hx hb dX11_readLawLine_79 rfl (lv_at hl 2 rfl) ?_
      refine lv_iconst (v := 0) hx hb dX11_readLawLine_80 (by decide) ?_
      refine va_put (D := D) (ci := 10) (v := .int 0) (ty := .int) (C := RX11) (T := TX11) (N := 26) hx hb hts iG_X11 tyX11 tyX11_ok nmX11 hown hK hP hD hS 1 rfl rfl 12 (by decide) (hts _ w21_17) (fun _ h9 => h9) rfl (by decide +kernel) rfl rfl (Nat.le_of_ble_eq_true rfl) dX11_readLawLine_81 (fun H locs hP hD hS => ?_)
      have hP : va_P D vwCl [(aw, .inl (cI, 2179, .inl g60)), (h, oX11 th aw ai ab ac hi re aP ta x38 en x39 0 fa a5 sp av an ak ne aW aC ag aT aN aF), (aP, .inl (cB, 400, .inl ft))] H := hP
      have hD : va_D A [(aw, .inl (cI, 2179, .inl g60)), (h, oX11 th aw ai ab ac hi re aP ta x38 en x39 0 fa a5 sp av an ak ne aW aC ag aT aN aF), (aP, .inl (cB, 400, .inl ft))] := hD
      refine lv_aload_n hx hb dX11_readLawLine_84 rfl (lv_at hl 2 rfl) ?_
      obtain ⟨q64, q65, hR66, hT67⟩ := kTx_18 hE.2.2
      refine va_ldcS hx hb hown hR66 dX11_readLawLine_85 ?_
      refine kcalli (wc := [(h, oX11 th aw ai ab ac hi re aP ta x38 en x39 0 fa a5 sp av an ak ne aW aC ag aT aN aF), (aP, .inl (cB, 400, .inl ft))]) (wr := [(aw, .inl (cI, 2179, .inl g60))]) hP hD hS hA [1, 2] [0] rfl rfl (by decide) (by decide) (by decide) (fun hPc hDc hFc => va_runV (As := [.ref q64]) (rest := []) ⟨hx, hb, hml, hown, hts⟩ (r_passes l D cI cJ cB cC h th aw ai ab ac hi re aP ta x38 en x39 0 fa a5 sp av an ak ne aW aC ag aT aN aF ft q64 kSb18 q65 H.size k40 H_en kSb18_le) (cwV 1 hts gX11_readLawLine_X11_passes rfl rfl rfl ⟨rfl, hdX11_passes⟩ ⟨Nat.le_of_ble_eq_true rfl, Nat.le_of_ble_eq_true rfl⟩) ⟨kBlindT, va_recv hK hPc (ci := 10) (q0 := 0) rfl rfl, fun U hU hW => ⟨rfl, by rw [hU], hN.warm hW, hE.pass hS hFc hW hU, hT67.pass hS hFc hW hU, by rw [hU]; exact hPc, va_K.moved hW.alike hK, hDc⟩⟩ rfl rfl hl.1 rfl (lv_room (Nat.le_of_ble_eq_true rfl)) dX11_readLawLine_87 ⟨Nat.le_of_ble_eq_true rfl, Nat.le_of_ble_eq_true rfl⟩) (fun r68 u H locs hw hP hD hS => ?_)
      obtain ⟨x69, x70⟩ := u
      have hP : va_P D vwCl [(aw, .inl (cI, 2179, .inl g60)), (h, oX11 th aw ai ab ac hi re aP ta x69 en x70 0 fa a5 sp av an ak ne aW aC ag aT aN aF), (aP, .inl (cB, 400, .inl ft))] H := hP
      have hD : va_D A [(aw, .inl (cI, 2179, .inl g60)), (h, oX11 th aw ai ab ac hi re aP ta x69 en x70 0 fa a5 sp av an ak ne aW aC ag aT aN aF), (aP, .inl (cB, 400, .inl ft))] := hD
      obtain ⟨k71, k72, hw⟩ := hw
      rcases hw with ⟨rfl, kc73_0⟩ | ⟨rfl, kc73_0⟩
      · skip
        refine lv_if_eq (tgt := 102) hx hb dX11_readLawLine_90 (by decide) (fun _ => ?_) (fun c75 => absurd (by decide) c75)
        refine lv_aload_n hx hb dX11_readLawLine_102 rfl (lv_at hl 2 rfl) ?_
        refine va_get (D := D) (ci := 10) (v := .ref aw) (C := RX11) (T := TX11) (N := 26) hx hb hts iG_X11 hown hK hP 1 rfl rfl 1 (by decide) (hts _ w5_3) (fun _ h9 => h9) rfl dX11_readLawLine_103 ?_
        refine lv_iload_n hx hb dX11_readLawLine_106 rfl (lv_at hl 1 rfl) ?_
        refine lv_iconst (v := 2) hx hb dX11_readLawLine_107 (by decide) ?_
        refine lv_iadd hx hb dX11_readLawLine_108 ?_
        refine lv_topi (fun x76 ex76 => ?_)
        have tx76 : x76.toInt = x3.toInt + 2 := ti_add ex76 k4 (rg_lit (n := 2) (by decide)) (by decide) rfl (by decide)
        have k77 : Rg x76 1345 1378 := rg_add ex76 k4 (rg_lit (n := 2) (by decide)) (by decide)
        refine lv_aload_n hx hb dX11_readLawLine_109 rfl (lv_at hl 2 rfl) ?_
        refine va_get (D := D) (ci := 10) (v := .int sp) (C := RX11) (T := TX11) (N := 26) hx hb hts iG_X11 hown hK hP 1 rfl rfl 15 (by decide) (hts _ w18_4) (fun _ h9 => h9) rfl dX11_readLawLine_110 ?_
        refine va_iast hx hb hK hP hD hS 0 0 rfl rfl (rg_in k77 (by decide)) dX11_readLawLine_113 (fun H locs hP hD hS => ?_)
        have hP : va_P D vwCl [(aw, .inl (cI, 2179, .inl (upd g60 x76.toNatClampNeg sp))), (h, oX11 th aw ai ab ac hi re aP ta x69 en x70 0 fa a5 sp av an ak ne aW aC ag aT aN aF), (aP, .inl (cB, 400, .inl ft))] H := hP
        have hD : va_D A [(aw, .inl (cI, 2179, .inl (upd g60 x76.toNatClampNeg sp))), (h, oX11 th aw ai ab ac hi re aP ta x69 en x70 0 fa a5 sp av an ak ne aW aC ag aT aN aF), (aP, .inl (cB, 400, .inl ft))] := hD
        have k79 : wW (upd g60 x76.toNatClampNeg sp) := wW_hi k61 k77 (by decide)
        have k80 : wB (upd g60 x76.toNatClampNeg sp) := wB_hi k62 k61 k77 (by decide)
        have k81 : wL (upd g60 x76.toNatClampNeg sp) := wL_out k63 k77 (by decide)
        generalize hg78 : (upd g60 x76.toNatClampNeg sp) = g78 at hP hD k79 k80 k81
        refine lv_iconst (v := 1) hx hb dX11_readLawLine_114 (by decide) ?_
        have hP9 := hP.sub (ws' := [(h, oX11 th aw ai ab ac hi re aP ta x69 en x70 0 fa a5 sp av an ak ne aW aC ag aT aN aF), (aw, .inl (cI, 2179, .inl g78)), (aP, .inl (cB, 400, .inl ft))]) [1, 0, 2] rfl
        have hD9 := hD.sub (ws' := [(h, oX11 th aw ai ab ac hi re aP ta x69 en x70 0 fa a5 sp av an ak ne aW aC ag aT aN aF), (aw, .inl (cI, 2179, .inl g78)), (aP, .inl (cB, 400, .inl ft))]) [1, 0, 2] (by decide) rfl
        exact W.zret (v := 1) hx hb hr (by decide) (fun t ht hW => ⟨⟨1, (x69, x70, (0 : Int32), sp, g78), rfl, ⟨k71, k72, H_sp, k80, k81, k79, (Or.inr ⟨rfl, (rLn_no hg45 hg60 hg78 (cl_of (k := 1343 + 3 * cN n) k4 (by decide) (by simp only [cN]; have q0 := H_SB; have q1 := tx1; have q2 := tx3; have q4 := k11; have q7 := neI c25; have q8 := neI (Ne.symm c25); have q9 := k43; have q11 := k44; have q14 := (leI c56); have q15 := tx58; have q18 := kc73_0; have q19 := tx76; have q21 := H_n; have q22 : (0 : Int32).toInt = 0 := (by decide); have q23 : (1 : Int32).toInt = 1 := (by decide); have q24 : ((nI kSb16.length) : Int32).toInt = 4 := (by decide); unfold Rg at *; omega)) (cl_of (k := 1344 + 3 * cN n) k59 (by decide) (by simp only [cN]; have q0 := H_SB; have q1 := tx1; have q2 := tx3; have q4 := k11; have q7 := neI c25; have q8 := neI (Ne.symm c25); have q9 := k43; have q11 := k44; have q14 := (leI c56); have q15 := tx58; have q18 := kc73_0; have q19 := tx76; have q21 := H_n; have q22 : (0 : Int32).toInt = 0 := (by decide); have q23 : (1 : Int32).toInt = 1 := (by decide); have q24 : ((nI kSb16.length) : Int32).toInt = 4 := (by decide); unfold Rg at *; omega)) (cl_of (k := 1345 + 3 * cN n) k77 (by decide) (by simp only [cN]; have q0 := H_SB; have q1 := tx1; have q2 := tx3; have q4 := k11; have q7 := neI c25; have q8 := neI (Ne.symm c25); have q9 := k43; have q11 := k44; have q14 := (leI c56); have q15 := tx58; have q18 := kc73_0; have q19 := tx76; have q21 := H_n; have q22 : (0 : Int32).toInt = 0 := (by decide); have q23 : (1 : Int32).toInt = 1 := (by decide); have q24 : ((nI kSb16.length) : Int32).toInt = 4 := (by decide); unfold Rg at *; omega)) H_n k42 (by have q1 := H_sp; unfold Rg at q1; omega)), (by have q0 := H_SB; have q1 := tx1; have q2 := tx3; have q4 := k11; have q7 := neI c25; have q8 := neI (Ne.symm c25); have q9 := k43; have q11 := k44; have q14 := (leI c56); have q15 := tx58; have q18 := kc73_0; have q19 := tx76; have q21 := H_sp; have q22 := k71; have q23 : (0 : Int32).toInt = 0 := (by decide); have q24 : (1 : Int32).toInt = 1 := (by decide); have q25 : ((nI kSb16.length) : Int32).toInt = 4 := (by decide); unfold Rg at *; omega)⟩)⟩, by rw [ht]; exact hP9, va_K.moved hW.alike hK, hD9⟩, hS.F ht⟩) hS.2.2 dX11_readLawLine_115
      · skip
        refine lv_if_eq (tgt := 102) hx hb dX11_readLawLine_90 (by decide) (fun c101 => absurd c101 (by decide)) (fun _ => ?_)
        refine lv_aload_n hx hb dX11_readLawLine_93 rfl (lv_at hl 2 rfl) ?_
        have k102 : (sp : Int32).toInt + 5 ≤ (x69 : Int32).toInt := (by have q0 := H_SB; have q1 := tx1; have q2 := tx3; have q4 := k11; have q7 := neI c25; have q8 := neI (Ne.symm c25); have q9 := k43; have q11 := k44; have q14 := (leI c56); have q15 := tx58; have q18 := kc73_0; have q19 := H_sp; have q20 := k71; have q21 : (0 : Int32).toInt = 0 := (by decide); have q22 : (1 : Int32).toInt = 1 := (by decide); have q23 : ((nI kSb16.length) : Int32).toInt = 4 := (by decide); have q24 : ((nI kSb18.length) : Int32).toInt = 2 := (by decide); unfold Rg at *; omega)
        have k103 : Rg sp 0 395 := (by have q1 := k102; have q2 := H_sp; have q3 := k71; unfold Rg at *; exact ⟨by omega, by omega⟩)
        refine kcalli (wc := [(h, oX11 th aw ai ab ac hi re aP ta x69 en x70 0 fa a5 sp av an ak ne aW aC ag aT aN aF), (aw, .inl (cI, 2179, .inl g60)), (aP, .inl (cB, 400, .inl ft))]) (wr := []) hP hD hS hA [1, 0, 2] [] rfl rfl (by decide) (by decide) (by decide) (fun hPc hDc hFc => va_runV (As := []) (rest := []) ⟨hx, hb, hml, hown, hts⟩ (r_readCond0 l D cI cJ cB cC h th aw ai ab ac hi re aP ta x69 en x70 fa a5 sp av an ak ne aW aC ag aT aN aF g60 ft H.size k71 H_en k103 k61 k62 k63 k102) (cwV 0 hts gX11_readLawLine_X11_readCond rfl rfl rfl ⟨rfl, hdX11_readCond⟩ ⟨Nat.le_of_ble_eq_true rfl, Nat.le_of_ble_eq_true rfl⟩) ⟨kBlind, va_recv hK hPc (ci := 10) (q0 := 0) rfl rfl, fun U hU hW => ⟨rfl, by rw [hU], hN.warm hW, hE.pass hS hFc hW hU, by rw [hU]; exact hPc, va_K.moved hW.alike hK, hDc⟩⟩ rfl rfl hl.1 rfl (lv_room (Nat.le_of_ble_eq_true rfl)) dX11_readLawLine_94 ⟨Nat.le_of_ble_eq_true rfl, Nat.le_of_ble_eq_true rfl⟩) (fun r104 u H locs hw hP hD hS => ?_)
        obtain ⟨x105, x106, x107, x108, g109⟩ := u
        have hP : va_P D vwCl [(h, oX11 th aw ai ab ac hi re aP ta x105 en x106 x107 fa a5 x108 av an ak ne aW aC ag aT aN aF), (aw, .inl (cI, 2179, .inl g109)), (aP, .inl (cB, 400, .inl ft))] H := hP
        have hD : va_D A [(h, oX11 th aw ai ab ac hi re aP ta x105 en x106 x107 fa a5 x108 av an ak ne aW aC ag aT aN aF), (aw, .inl (cI, 2179, .inl g109)), (aP, .inl (cB, 400, .inl ft))] := hD
        obtain ⟨k110, k111, k112, k113, k114, k115, k116, hw⟩ := hw
        rcases hw with rfl | ⟨rfl, kc117_0, kc117_1⟩
        · skip
          refine lv_if_ne (tgt := 102) hx hb dX11_readLawLine_97 (by decide) (fun c118 => absurd (by decide) c118) (fun _ => ?_)
          refine lv_iconst (v := 0) hx hb dX11_readLawLine_100 (by decide) ?_
          have hP9 := hP.sub (ws' := [(h, oX11 th aw ai ab ac hi re aP ta x105 en x106 x107 fa a5 x108 av an ak ne aW aC ag aT aN aF), (aw, .inl (cI, 2179, .inl g109)), (aP, .inl (cB, 400, .inl ft))]) [0, 1, 2] rfl
          have hD9 := hD.sub (ws' := [(h, oX11 th aw ai ab ac hi re aP ta x105 en x106 x107 fa a5 x108 av an ak ne aW aC ag aT aN aF), (aw, .inl (cI, 2179, .inl g109)), (aP, .inl (cB, 400, .inl ft))]) [0, 1, 2] (by decide) rfl
          exact W.zret (v := 0) hx hb hr (by decide) (fun t ht hW => ⟨⟨0, (x105, x106, x107, x108, g109), rfl, ⟨k110, k111, k113, k114, k115, k116, (Or.inl rfl)⟩, by rw [ht]; exact hP9, va_K.moved hW.alike hK, hD9⟩, hS.F ht⟩) hS.2.2 dX11_readLawLine_101
        · skip
          obtain rfl : x107 = (0 : Int32) := Int32.toInt_inj.mp (kc117_1.trans (by decide))
          refine lv_if_ne (tgt := 102) hx hb dX11_readLawLine_97 (by decide) (fun _ => ?_) (fun c119 => absurd c119 (by decide))
          refine lv_aload_n hx hb dX11_readLawLine_102 rfl (lv_at hl 2 rfl) ?_
          refine va_get (D := D) (ci := 10) (v := .ref aw) (C := RX11) (T := TX11) (N := 26) hx hb hts iG_X11 hown hK hP 0 rfl rfl 1 (by decide) (hts _ w5_3) (fun _ h9 => h9) rfl dX11_readLawLine_103 ?_
          refine lv_iload_n hx hb dX11_readLawLine_106 rfl (lv_at hl 1 rfl) ?_
          refine lv_iconst (v := 2) hx hb dX11_readLawLine_107 (by decide) ?_
          refine lv_iadd hx hb dX11_readLawLine_108 ?_
          refine lv_topi (fun x120 ex120 => ?_)
          have tx120 : x120.toInt = x3.toInt + 2 := ti_add ex120 k4 (rg_lit (n := 2) (by decide)) (by decide) rfl (by decide)
          have k121 : Rg x120 1345 1378 := rg_add ex120 k4 (rg_lit (n := 2) (by decide)) (by decide)
          refine lv_aload_n hx hb dX11_readLawLine_109 rfl (lv_at hl 2 rfl) ?_
          refine va_get (D := D) (ci := 10) (v := .int x108) (C := RX11) (T := TX11) (N := 26) hx hb hts iG_X11 hown hK hP 0 rfl rfl 15 (by decide) (hts _ w18_4) (fun _ h9 => h9) rfl dX11_readLawLine_110 ?_
          refine va_iast hx hb hK hP hD hS 1 0 rfl rfl (rg_in k121 (by decide)) dX11_readLawLine_113 (fun H locs hP hD hS => ?_)
          have hP : va_P D vwCl [(h, oX11 th aw ai ab ac hi re aP ta x105 en x106 0 fa a5 x108 av an ak ne aW aC ag aT aN aF), (aw, .inl (cI, 2179, .inl (upd g109 x120.toNatClampNeg x108))), (aP, .inl (cB, 400, .inl ft))] H := hP
          have hD : va_D A [(h, oX11 th aw ai ab ac hi re aP ta x105 en x106 0 fa a5 x108 av an ak ne aW aC ag aT aN aF), (aw, .inl (cI, 2179, .inl (upd g109 x120.toNatClampNeg x108))), (aP, .inl (cB, 400, .inl ft))] := hD
          have k123 : wB (upd g109 x120.toNatClampNeg x108) := wB_hi k114 k116 k121 (by decide)
          have k124 : wL (upd g109 x120.toNatClampNeg x108) := wL_out k115 k121 (by decide)
          have k125 : wW (upd g109 x120.toNatClampNeg x108) := wW_hi k116 k121 (by decide)
          generalize hg122 : (upd g109 x120.toNatClampNeg x108) = g122 at hP hD k123 k124 k125
          refine lv_iconst (v := 1) hx hb dX11_readLawLine_114 (by decide) ?_
          have hP9 := hP.sub (ws' := [(h, oX11 th aw ai ab ac hi re aP ta x105 en x106 0 fa a5 x108 av an ak ne aW aC ag aT aN aF), (aw, .inl (cI, 2179, .inl g122)), (aP, .inl (cB, 400, .inl ft))]) [0, 1, 2] rfl
          have hD9 := hD.sub (ws' := [(h, oX11 th aw ai ab ac hi re aP ta x105 en x106 0 fa a5 x108 av an ak ne aW aC ag aT aN aF), (aw, .inl (cI, 2179, .inl g122)), (aP, .inl (cB, 400, .inl ft))]) [0, 1, 2] (by decide) rfl
          exact W.zret (v := 1) hx hb hr (by decide) (fun t ht hW => ⟨⟨1, (x105, x106, (0 : Int32), x108, g122), rfl, ⟨k110, k111, k113, k123, k124, k125, (Or.inr ⟨rfl, (rLn_if hg45 hg60 kc117_0 hg122 (cl_of (k := 1343 + 3 * cN n) k4 (by decide) (by simp only [cN]; have q0 := H_SB; have q1 := tx1; have q2 := tx3; have q4 := k11; have q7 := neI c25; have q8 := neI (Ne.symm c25); have q9 := k43; have q11 := k44; have q14 := (leI c56); have q15 := tx58; have q18 := kc73_0; have q19 := k102; obtain ⟨-, -, u20, v20, w20⟩ := kc117_0; have q21 := kc117_1; have q22 := tx120; have q24 := H_n; have q25 : (0 : Int32).toInt = 0 := (by decide); have q26 : (1 : Int32).toInt = 1 := (by decide); have q27 : ((nI kSb16.length) : Int32).toInt = 4 := (by decide); have q28 : ((nI kSb18.length) : Int32).toInt = 2 := (by decide); unfold Rg at *; omega)) (cl_of (k := 1344 + 3 * cN n) k59 (by decide) (by simp only [cN]; have q0 := H_SB; have q1 := tx1; have q2 := tx3; have q4 := k11; have q7 := neI c25; have q8 := neI (Ne.symm c25); have q9 := k43; have q11 := k44; have q14 := (leI c56); have q15 := tx58; have q18 := kc73_0; have q19 := k102; obtain ⟨-, -, u20, v20, w20⟩ := kc117_0; have q21 := kc117_1; have q22 := tx120; have q24 := H_n; have q25 : (0 : Int32).toInt = 0 := (by decide); have q26 : (1 : Int32).toInt = 1 := (by decide); have q27 : ((nI kSb16.length) : Int32).toInt = 4 := (by decide); have q28 : ((nI kSb18.length) : Int32).toInt = 2 := (by decide); unfold Rg at *; omega)) (cl_of (k := 1345 + 3 * cN n) k121 (by decide) (by simp only [cN]; have q0 := H_SB; have q1 := tx1; have q2 := tx3; have q4 := k11; have q7 := neI c25; have q8 := neI (Ne.symm c25); have q9 := k43; have q11 := k44; have q14 := (leI c56); have q15 := tx58; have q18 := kc73_0; have q19 := k102; obtain ⟨-, -, u20, v20, w20⟩ := kc117_0; have q21 := kc117_1; have q22 := tx120; have q24 := H_n; have q25 : (0 : Int32).toInt = 0 := (by decide); have q26 : (1 : Int32).toInt = 1 := (by decide); have q27 : ((nI kSb16.length) : Int32).toInt = 4 := (by decide); have q28 : ((nI kSb18.length) : Int32).toInt = 2 := (by decide); unfold Rg at *; omega)) H_n k42), (by have q0 := H_SB; have q1 := tx1; have q2 := tx3; have q4 := k11; have q7 := neI c25; have q8 := neI (Ne.symm c25); have q9 := k43; have q11 := k44; have q14 := (leI c56); have q15 := tx58; have q18 := kc73_0; have q19 := k102; obtain ⟨-, -, u20, v20, w20⟩ := kc117_0; have q21 := kc117_1; have q22 := tx120; have q24 := k113; have q25 := k110; have q26 : (0 : Int32).toInt = 0 := (by decide); have q27 : (1 : Int32).toInt = 1 := (by decide); have q28 : ((nI kSb16.length) : Int32).toInt = 4 := (by decide); have q29 : ((nI kSb18.length) : Int32).toInt = 2 := (by decide); unfold Rg at *; omega)⟩)⟩, by rw [ht]; exact hP9, va_K.moved hW.alike hK, hD9⟩, hS.F ht⟩) hS.2.2 dX11_readLawLine_115
    · skip
      have k126 : Rg x55 (-2147483648) (-1) := rg_l1 (nleI c56) (rg_any x55) (rg_lit (n := 0) (by decide)) (by decide)
      refine lv_iconst (v := 0) hx hb dX11_readLawLine_65 (by decide) ?_
      have hP9 := hP.sub (ws' := [(h, oX11 th aw ai ab ac hi re aP ta x38 en x39 de fa a5 sp av an ak ne aW aC ag aT aN aF), (aw, .inl (cI, 2179, .inl g45)), (aP, .inl (cB, 400, .inl ft))]) [1, 0, 2] rfl
      have hD9 := hD.sub (ws' := [(h, oX11 th aw ai ab ac hi re aP ta x38 en x39 de fa a5 sp av an ak ne aW aC ag aT aN aF), (aw, .inl (cI, 2179, .inl g45)), (aP, .inl (cB, 400, .inl ft))]) [1, 0, 2] (by decide) rfl
      exact W.zret (v := 0) hx hb hr (by decide) (fun t ht hW => ⟨⟨0, (x38, x39, de, sp, g45), rfl, ⟨k40, k41, H_sp, k47, k48, k46, (Or.inl rfl)⟩, by rw [ht]; exact hP9, va_K.moved hW.alike hK, hD9⟩, hS.F ht⟩) hS.2.2 dX11_readLawLine_66
  · skip
    have k127 : Rg r9 0 0 := rg_q1 (eqI c25) k10 (rg_lit (n := 0) (by decide)) (by decide)
    refine lv_aload_n hx hb dX11_readLawLine_19 rfl (lv_at hl 2 rfl) ?_
    obtain ⟨q128, q129, hR130, hT131⟩ := kTx_17 hE.2.2
    refine va_ldcS hx hb hown hR130 dX11_readLawLine_20 ?_
    refine kpurei (wc := [(h, oX11 th aw ai ab ac hi re aP ta po en be de fa a5 sp av an ak ne aW aC ag aT aN aF), (aP, .inl (cB, 400, .inl ft))]) hP hD hS hA [0, 2] rfl (by decide) (fun hPc hDc hFc => va_runV (As := [.ref q128]) (rest := []) ⟨hx, hb, hml, hown, hts⟩ (r_isWord l D cI cJ cB cC h th aw ai ab ac hi re aP ta po en be de fa a5 sp av an ak ne aW aC ag aT aN aF ft q128 kSb17 q129 H.size H_po H_en H_be kSb17_le) (cwV 1 hts gX11_readLawLine_X11_isWord rfl rfl rfl ⟨rfl, hdX11_isWord⟩ ⟨Nat.le_of_ble_eq_true rfl, Nat.le_of_ble_eq_true rfl⟩) ⟨kBlindT, va_recv hK hPc (ci := 10) (q0 := 0) rfl rfl, fun U hU hW => ⟨rfl, by rw [hU], hN.warm hW, hE.pass hS hFc hW hU, hT131.pass hS hFc hW hU, by rw [hU]; exact hPc, va_K.moved hW.alike hK, hDc⟩⟩ rfl rfl hl.1 rfl (lv_room (Nat.le_of_ble_eq_true rfl)) dX11_readLawLine_22 ⟨Nat.le_of_ble_eq_true rfl, Nat.le_of_ble_eq_true rfl⟩) (fun r132 u H locs hw hP hS => ?_)
    obtain ⟨k133, k134⟩ := hw
    refine lv_if_ne (tgt := 30) hx hb dX11_readLawLine_25 (by decide) (fun c135 => ?_) (fun c135 => ?_)
    · skip
      have k136 : Rg r132 1 1 := rg_n1 (neI c135) k133 (rg_lit (n := 0) (by decide)) (by decide)
      refine lv_aload_n hx hb dX11_readLawLine_30 rfl (lv_at hl 2 rfl) ?_
      refine va_get (D := D) (ci := 10) (v := .ref aw) (C := RX11) (T := TX11) (N := 26) hx hb hts iG_X11 hown hK hP 0 rfl rfl 1 (by decide) (hts _ w5_3) (fun _ h9 => h9) rfl dX11_readLawLine_31 ?_
      refine lv_iload_n hx hb dX11_readLawLine_34 rfl (lv_at hl 1 rfl) ?_
      refine lv_iload_n hx hb dX11_readLawLine_35 rfl (lv_at hl 0 rfl) ?_
      refine lv_if_eq (tgt := 50) hx hb dX11_readLawLine_36 (by decide) (fun _ => ?_) (fun c138 => absurd (rg_eq k127 (rg_lit (n := 0) (by decide)) (by decide)) c138)
      refine lv_iconst (v := (-1)) hx hb dX11_readLawLine_50 (by decide) ?_
      refine va_iast hx hb hK hP hD hS 1 0 rfl rfl (rg_in k4 (by decide)) dX11_readLawLine_51 (fun H locs hP hD hS => ?_)
      have hP : va_P D vwCl [(h, oX11 th aw ai ab ac hi re aP ta po en be de fa a5 sp av an ak ne aW aC ag aT aN aF), (aw, .inl (cI, 2179, .inl (upd fw x3.toNatClampNeg (-1)))), (aP, .inl (cB, 400, .inl ft))] H := hP
      have hD : va_D A [(h, oX11 th aw ai ab ac hi re aP ta po en be de fa a5 sp av an ak ne aW aC ag aT aN aF), (aw, .inl (cI, 2179, .inl (upd fw x3.toNatClampNeg (-1)))), (aP, .inl (cB, 400, .inl ft))] := hD
      have k140 : wW (upd fw x3.toNatClampNeg (-1)) := wW_hi H_fw_W k4 (by decide)
      have k141 : wB (upd fw x3.toNatClampNeg (-1)) := wB_hi H_fw_B H_fw_W k4 (by decide)
      have k142 : wL (upd fw x3.toNatClampNeg (-1)) := wL_out H_fw_L k4 (by decide)
      generalize hg139 : (upd fw x3.toNatClampNeg (-1)) = g139 at hP hD k140 k141 k142
      refine lv_iload_n hx hb dX11_readLawLine_52 rfl (lv_at hl 0 rfl) ?_
      refine lv_if_eq (tgt := 67) hx hb dX11_readLawLine_53 (by decide) (fun _ => ?_) (fun c144 => absurd (rg_eq k127 (rg_lit (n := 0) (by decide)) (by decide)) c144)
      refine lv_aload_n hx hb dX11_readLawLine_67 rfl (lv_at hl 2 rfl) ?_
      refine va_get (D := D) (ci := 10) (v := .ref aw) (C := RX11) (T := TX11) (N := 26) hx hb hts iG_X11 hown hK hP 0 rfl rfl 1 (by decide) (hts _ w5_3) (fun _ h9 => h9) rfl dX11_readLawLine_68 ?_
      refine lv_iload_n hx hb dX11_readLawLine_71 rfl (lv_at hl 1 rfl) ?_
      refine lv_iconst (v := 1) hx hb dX11_readLawLine_72 (by decide) ?_
      refine lv_iadd hx hb dX11_readLawLine_73 ?_
      refine lv_topi (fun x145 ex145 => ?_)
      have tx145 : x145.toInt = x3.toInt + 1 := ti_add ex145 k4 (rg_lit (n := 1) (by decide)) (by decide) rfl (by decide)
      have k146 : Rg x145 1344 1377 := rg_add ex145 k4 (rg_lit (n := 1) (by decide)) (by decide)
      refine lv_aload_n hx hb dX11_readLawLine_74 rfl (lv_at hl 2 rfl) ?_
      refine va_get (D := D) (ci := 10) (v := .int sp) (C := RX11) (T := TX11) (N := 26) hx hb hts iG_X11 hown hK hP 0 rfl rfl 15 (by decide) (hts _ w18_4) (fun _ h9 => h9) rfl dX11_readLawLine_75 ?_
      refine va_iast hx hb hK hP hD hS 1 0 rfl rfl (rg_in k146 (by decide)) dX11_readLawLine_78 (fun H locs hP hD hS => ?_)
      have hP : va_P D vwCl [(h, oX11 th aw ai ab ac hi re aP ta po en be de fa a5 sp av an ak ne aW aC ag aT aN aF), (aw, .inl (cI, 2179, .inl (upd g139 x145.toNatClampNeg sp))), (aP, .inl (cB, 400, .inl ft))] H := hP
      have hD : va_D A [(h, oX11 th aw ai ab ac hi re aP ta po en be de fa a5 sp av an ak ne aW aC ag aT aN aF), (aw, .inl (cI, 2179, .inl (upd g139 x145.toNatClampNeg sp))), (aP, .inl (cB, 400, .inl ft))] := hD
      have k148 : wW (upd g139 x145.toNatClampNeg sp) := wW_hi k140 k146 (by decide)
      have k149 : wB (upd g139 x145.toNatClampNeg sp) := wB_hi k141 k140 k146 (by decide)
      have k150 : wL (upd g139 x145.toNatClampNeg sp) := wL_out k142 k146 (by decide)
      generalize hg147 : (upd g139 x145.toNatClampNeg sp) = g147 at hP hD k148 k149 k150
      refine lv_aload_n hx hb dX11_readLawLine_79 rfl (lv_at hl 2 rfl) ?_
      refine lv_iconst (v := 0) hx hb dX11_readLawLine_80 (by decide) ?_
      refine va_put (D := D) (ci := 10) (v := .int 0) (ty := .int) (C := RX11) (T := TX11) (N := 26) hx hb hts iG_X11 tyX11 tyX11_ok nmX11 hown hK hP hD hS 0 rfl rfl 12 (by decide) (hts _ w21_17) (fun _ h9 => h9) rfl (by decide +kernel) rfl rfl (Nat.le_of_ble_eq_true rfl) dX11_readLawLine_81 (fun H locs hP hD hS => ?_)
      have hP : va_P D vwCl [(h, oX11 th aw ai ab ac hi re aP ta po en be 0 fa a5 sp av an ak ne aW aC ag aT aN aF), (aw, .inl (cI, 2179, .inl g147)), (aP, .inl (cB, 400, .inl ft))] H := hP
      have hD : va_D A [(h, oX11 th aw ai ab ac hi re aP ta po en be 0 fa a5 sp av an ak ne aW aC ag aT aN aF), (aw, .inl (cI, 2179, .inl g147)), (aP, .inl (cB, 400, .inl ft))] := hD
      refine lv_aload_n hx hb dX11_readLawLine_84 rfl (lv_at hl 2 rfl) ?_
      obtain ⟨q151, q152, hR153, hT154⟩ := kTx_18 hE.2.2
      refine va_ldcS hx hb hown hR153 dX11_readLawLine_85 ?_
      refine kcalli (wc := [(h, oX11 th aw ai ab ac hi re aP ta po en be 0 fa a5 sp av an ak ne aW aC ag aT aN aF), (aP, .inl (cB, 400, .inl ft))]) (wr := [(aw, .inl (cI, 2179, .inl g147))]) hP hD hS hA [0, 2] [1] rfl rfl (by decide) (by decide) (by decide) (fun hPc hDc hFc => va_runV (As := [.ref q151]) (rest := []) ⟨hx, hb, hml, hown, hts⟩ (r_passes l D cI cJ cB cC h th aw ai ab ac hi re aP ta po en be 0 fa a5 sp av an ak ne aW aC ag aT aN aF ft q151 kSb18 q152 H.size H_po H_en kSb18_le) (cwV 1 hts gX11_readLawLine_X11_passes rfl rfl rfl ⟨rfl, hdX11_passes⟩ ⟨Nat.le_of_ble_eq_true rfl, Nat.le_of_ble_eq_true rfl⟩) ⟨kBlindT, va_recv hK hPc (ci := 10) (q0 := 0) rfl rfl, fun U hU hW => ⟨rfl, by rw [hU], hN.warm hW, hE.pass hS hFc hW hU, hT154.pass hS hFc hW hU, by rw [hU]; exact hPc, va_K.moved hW.alike hK, hDc⟩⟩ rfl rfl hl.1 rfl (lv_room (Nat.le_of_ble_eq_true rfl)) dX11_readLawLine_87 ⟨Nat.le_of_ble_eq_true rfl, Nat.le_of_ble_eq_true rfl⟩) (fun r155 u H locs hw hP hD hS => ?_)
      obtain ⟨x156, x157⟩ := u
      have hP : va_P D vwCl [(aw, .inl (cI, 2179, .inl g147)), (h, oX11 th aw ai ab ac hi re aP ta x156 en x157 0 fa a5 sp av an ak ne aW aC ag aT aN aF), (aP, .inl (cB, 400, .inl ft))] H := hP
      have hD : va_D A [(aw, .inl (cI, 2179, .inl g147)), (h, oX11 th aw ai ab ac hi re aP ta x156 en x157 0 fa a5 sp av an ak ne aW aC ag aT aN aF), (aP, .inl (cB, 400, .inl ft))] := hD
      obtain ⟨k158, k159, hw⟩ := hw
      rcases hw with ⟨rfl, kc160_0⟩ | ⟨rfl, kc160_0⟩
      · skip
        refine lv_if_eq (tgt := 102) hx hb dX11_readLawLine_90 (by decide) (fun _ => ?_) (fun c162 => absurd (by decide) c162)
        refine lv_aload_n hx hb dX11_readLawLine_102 rfl (lv_at hl 2 rfl) ?_
        refine va_get (D := D) (ci := 10) (v := .ref aw) (C := RX11) (T := TX11) (N := 26) hx hb hts iG_X11 hown hK hP 1 rfl rfl 1 (by decide) (hts _ w5_3) (fun _ h9 => h9) rfl dX11_readLawLine_103 ?_
        refine lv_iload_n hx hb dX11_readLawLine_106 rfl (lv_at hl 1 rfl) ?_
        refine lv_iconst (v := 2) hx hb dX11_readLawLine_107 (by decide) ?_
        refine lv_iadd hx hb dX11_readLawLine_108 ?_
        refine lv_topi (fun x163 ex163 => ?_)
        have tx163 : x163.toInt = x3.toInt + 2 := ti_add ex163 k4 (rg_lit (n := 2) (by decide)) (by decide) rfl (by decide)
        have k164 : Rg x163 1345 1378 := rg_add ex163 k4 (rg_lit (n := 2) (by decide)) (by decide)
        refine lv_aload_n hx hb dX11_readLawLine_109 rfl (lv_at hl 2 rfl) ?_
        refine va_get (D := D) (ci := 10) (v := .int sp) (C := RX11) (T := TX11) (N := 26) hx hb hts iG_X11 hown hK hP 1 rfl rfl 15 (by decide) (hts _ w18_4) (fun _ h9 => h9) rfl dX11_readLawLine_110 ?_
        refine va_iast hx hb hK hP hD hS 0 0 rfl rfl (rg_in k164 (by decide)) dX11_readLawLine_113 (fun H locs hP hD hS => ?_)
        have hP : va_P D vwCl [(aw, .inl (cI, 2179, .inl (upd g147 x163.toNatClampNeg sp))), (h, oX11 th aw ai ab ac hi re aP ta x156 en x157 0 fa a5 sp av an ak ne aW aC ag aT aN aF), (aP, .inl (cB, 400, .inl ft))] H := hP
        have hD : va_D A [(aw, .inl (cI, 2179, .inl (upd g147 x163.toNatClampNeg sp))), (h, oX11 th aw ai ab ac hi re aP ta x156 en x157 0 fa a5 sp av an ak ne aW aC ag aT aN aF), (aP, .inl (cB, 400, .inl ft))] := hD
        have k166 : wW (upd g147 x163.toNatClampNeg sp) := wW_hi k148 k164 (by decide)
        have k167 : wB (upd g147 x163.toNatClampNeg sp) := wB_hi k149 k148 k164 (by decide)
        have k168 : wL (upd g147 x163.toNatClampNeg sp) := wL_out k150 k164 (by decide)
        generalize hg165 : (upd g147 x163.toNatClampNeg sp) = g165 at hP hD k166 k167 k168
        refine lv_iconst (v := 1) hx hb dX11_readLawLine_114 (by decide) ?_
        have hP9 := hP.sub (ws' := [(h, oX11 th aw ai ab ac hi re aP ta x156 en x157 0 fa a5 sp av an ak ne aW aC ag aT aN aF), (aw, .inl (cI, 2179, .inl g165)), (aP, .inl (cB, 400, .inl ft))]) [1, 0, 2] rfl
        have hD9 := hD.sub (ws' := [(h, oX11 th aw ai ab ac hi re aP ta x156 en x157 0 fa a5 sp av an ak ne aW aC ag aT aN aF), (aw, .inl (cI, 2179, .inl g165)), (aP, .inl (cB, 400, .inl ft))]) [1, 0, 2] (by decide) rfl
        exact W.zret (v := 1) hx hb hr (by decide) (fun t ht hW => ⟨⟨1, (x156, x157, (0 : Int32), sp, g165), rfl, ⟨k158, k159, H_sp, k167, k168, k166, (Or.inr ⟨rfl, (rLn_no hg139 hg147 hg165 (cl_of (k := 1343 + 3 * cN n) k4 (by decide) (by simp only [cN]; have q0 := H_SB; have q1 := tx1; have q2 := tx3; have q4 := k11; have q6 := (eqI c25); have q8 := k134; have q10 := neI c135; have q11 := neI (Ne.symm c135); have q13 := tx145; have q16 := kc160_0; have q17 := tx163; have q19 := H_n; have q20 : (0 : Int32).toInt = 0 := (by decide); have q21 : (1 : Int32).toInt = 1 := (by decide); have q22 : ((nI kSb16.length) : Int32).toInt = 4 := (by decide); have q23 : ((nI kSb17.length) : Int32).toInt = 3 := (by decide); unfold Rg at *; omega)) (cl_of (k := 1344 + 3 * cN n) k146 (by decide) (by simp only [cN]; have q0 := H_SB; have q1 := tx1; have q2 := tx3; have q4 := k11; have q6 := (eqI c25); have q8 := k134; have q10 := neI c135; have q11 := neI (Ne.symm c135); have q13 := tx145; have q16 := kc160_0; have q17 := tx163; have q19 := H_n; have q20 : (0 : Int32).toInt = 0 := (by decide); have q21 : (1 : Int32).toInt = 1 := (by decide); have q22 : ((nI kSb16.length) : Int32).toInt = 4 := (by decide); have q23 : ((nI kSb17.length) : Int32).toInt = 3 := (by decide); unfold Rg at *; omega)) (cl_of (k := 1345 + 3 * cN n) k164 (by decide) (by simp only [cN]; have q0 := H_SB; have q1 := tx1; have q2 := tx3; have q4 := k11; have q6 := (eqI c25); have q8 := k134; have q10 := neI c135; have q11 := neI (Ne.symm c135); have q13 := tx145; have q16 := kc160_0; have q17 := tx163; have q19 := H_n; have q20 : (0 : Int32).toInt = 0 := (by decide); have q21 : (1 : Int32).toInt = 1 := (by decide); have q22 : ((nI kSb16.length) : Int32).toInt = 4 := (by decide); have q23 : ((nI kSb17.length) : Int32).toInt = 3 := (by decide); unfold Rg at *; omega)) H_n (rg_w (rg_lit (n := -1) (by decide)) (by decide)) (by have q1 := H_sp; unfold Rg at q1; omega)), (by have q0 := H_SB; have q1 := tx1; have q2 := tx3; have q4 := k11; have q6 := (eqI c25); have q8 := k134; have q10 := neI c135; have q11 := neI (Ne.symm c135); have q13 := tx145; have q16 := kc160_0; have q17 := tx163; have q19 := H_sp; have q20 := k158; have q21 : (0 : Int32).toInt = 0 := (by decide); have q22 : (1 : Int32).toInt = 1 := (by decide); have q23 : ((nI kSb16.length) : Int32).toInt = 4 := (by decide); have q24 : ((nI kSb17.length) : Int32).toInt = 3 := (by decide); unfold Rg at *; omega)⟩)⟩, by rw [ht]; exact hP9, va_K.moved hW.alike hK, hD9⟩, hS.F ht⟩) hS.2.2 dX11_readLawLine_115
      · skip
        refine lv_if_eq (tgt := 102) hx hb dX11_readLawLine_90 (by decide) (fun c188 => absurd c188 (by decide)) (fun _ => ?_)
        refine lv_aload_n hx hb dX11_readLawLine_93 rfl (lv_at hl 2 rfl) ?_
        have k189 : (sp : Int32).toInt + 5 ≤ (x156 : Int32).toInt := (by have q0 := H_SB; have q1 := tx1; have q2 := tx3; have q4 := k11; have q6 := (eqI c25); have q8 := k134; have q10 := neI c135; have q11 := neI (Ne.symm c135); have q13 := tx145; have q16 := kc160_0; have q17 := H_sp; have q18 := k158; have q19 : (0 : Int32).toInt = 0 := (by decide); have q20 : (1 : Int32).toInt = 1 := (by decide); have q21 : ((nI kSb16.length) : Int32).toInt = 4 := (by decide); have q22 : ((nI kSb17.length) : Int32).toInt = 3 := (by decide); have q23 : ((nI kSb18.length) : Int32).toInt = 2 := (by decide); unfold Rg at *; omega)
        have k190 : Rg sp 0 395 := (by have q1 := k189; have q2 := H_sp; have q3 := k158; unfold Rg at *; exact ⟨by omega, by omega⟩)
        refine kcalli (wc := [(h, oX11 th aw ai ab ac hi re aP ta x156 en x157 0 fa a5 sp av an ak ne aW aC ag aT aN aF), (aw, .inl (cI, 2179, .inl g147)), (aP, .inl (cB, 400, .inl ft))]) (wr := []) hP hD hS hA [1, 0, 2] [] rfl rfl (by decide) (by decide) (by decide) (fun hPc hDc hFc => va_runV (As := []) (rest := []) ⟨hx, hb, hml, hown, hts⟩ (r_readCond0 l D cI cJ cB cC h th aw ai ab ac hi re aP ta x156 en x157 fa a5 sp av an ak ne aW aC ag aT aN aF g147 ft H.size k158 H_en k190 k148 k149 k150 k189) (cwV 0 hts gX11_readLawLine_X11_readCond rfl rfl rfl ⟨rfl, hdX11_readCond⟩ ⟨Nat.le_of_ble_eq_true rfl, Nat.le_of_ble_eq_true rfl⟩) ⟨kBlind, va_recv hK hPc (ci := 10) (q0 := 0) rfl rfl, fun U hU hW => ⟨rfl, by rw [hU], hN.warm hW, hE.pass hS hFc hW hU, by rw [hU]; exact hPc, va_K.moved hW.alike hK, hDc⟩⟩ rfl rfl hl.1 rfl (lv_room (Nat.le_of_ble_eq_true rfl)) dX11_readLawLine_94 ⟨Nat.le_of_ble_eq_true rfl, Nat.le_of_ble_eq_true rfl⟩) (fun r191 u H locs hw hP hD hS => ?_)
        obtain ⟨x192, x193, x194, x195, g196⟩ := u
        have hP : va_P D vwCl [(h, oX11 th aw ai ab ac hi re aP ta x192 en x193 x194 fa a5 x195 av an ak ne aW aC ag aT aN aF), (aw, .inl (cI, 2179, .inl g196)), (aP, .inl (cB, 400, .inl ft))] H := hP
        have hD : va_D A [(h, oX11 th aw ai ab ac hi re aP ta x192 en x193 x194 fa a5 x195 av an ak ne aW aC ag aT aN aF), (aw, .inl (cI, 2179, .inl g196)), (aP, .inl (cB, 400, .inl ft))] := hD
        obtain ⟨k197, k198, k199, k200, k201, k202, k203, hw⟩ := hw
        rcases hw with rfl | ⟨rfl, kc204_0, kc204_1⟩
        · skip
          refine lv_if_ne (tgt := 102) hx hb dX11_readLawLine_97 (by decide) (fun c205 => absurd (by decide) c205) (fun _ => ?_)
          refine lv_iconst (v := 0) hx hb dX11_readLawLine_100 (by decide) ?_
          have hP9 := hP.sub (ws' := [(h, oX11 th aw ai ab ac hi re aP ta x192 en x193 x194 fa a5 x195 av an ak ne aW aC ag aT aN aF), (aw, .inl (cI, 2179, .inl g196)), (aP, .inl (cB, 400, .inl ft))]) [0, 1, 2] rfl
          have hD9 := hD.sub (ws' := [(h, oX11 th aw ai ab ac hi re aP ta x192 en x193 x194 fa a5 x195 av an ak ne aW aC ag aT aN aF), (aw, .inl (cI, 2179, .inl g196)), (aP, .inl (cB, 400, .inl ft))]) [0, 1, 2] (by decide) rfl
          exact W.zret (v := 0) hx hb hr (by decide) (fun t ht hW => ⟨⟨0, (x192, x193, x194, x195, g196), rfl, ⟨k197, k198, k200, k201, k202, k203, (Or.inl rfl)⟩, by rw [ht]; exact hP9, va_K.moved hW.alike hK, hD9⟩, hS.F ht⟩) hS.2.2 dX11_readLawLine_101
        · skip
          obtain rfl : x194 = (0 : Int32) := Int32.toInt_inj.mp (kc204_1.trans (by decide))
          refine lv_if_ne (tgt := 102) hx hb dX11_readLawLine_97 (by decide) (fun _ => ?_) (fun c206 => absurd c206 (by decide))
          refine lv_aload_n hx hb dX11_readLawLine_102 rfl (lv_at hl 2 rfl) ?_
          refine va_get (D := D) (ci := 10) (v := .ref aw) (C := RX11) (T := TX11) (N := 26) hx hb hts iG_X11 hown hK hP 0 rfl rfl 1 (by decide) (hts _ w5_3) (fun _ h9 => h9) rfl dX11_readLawLine_103 ?_
          refine lv_iload_n hx hb dX11_readLawLine_106 rfl (lv_at hl 1 rfl) ?_
          refine lv_iconst (v := 2) hx hb dX11_readLawLine_107 (by decide) ?_
          refine lv_iadd hx hb dX11_readLawLine_108 ?_
          refine lv_topi (fun x207 ex207 => ?_)
          have tx207 : x207.toInt = x3.toInt + 2 := ti_add ex207 k4 (rg_lit (n := 2) (by decide)) (by decide) rfl (by decide)
          have k208 : Rg x207 1345 1378 := rg_add ex207 k4 (rg_lit (n := 2) (by decide)) (by decide)
          refine lv_aload_n hx hb dX11_readLawLine_109 rfl (lv_at hl 2 rfl) ?_
          refine va_get (D := D) (ci := 10) (v := .int x195) (C := RX11) (T := TX11) (N := 26) hx hb hts iG_X11 hown hK hP 0 rfl rfl 15 (by decide) (hts _ w18_4) (fun _ h9 => h9) rfl dX11_readLawLine_110 ?_
          refine va_iast hx hb hK hP hD hS 1 0 rfl rfl (rg_in k208 (by decide)) dX11_readLawLine_113 (fun H locs hP hD hS => ?_)
          have hP : va_P D vwCl [(h, oX11 th aw ai ab ac hi re aP ta x192 en x193 0 fa a5 x195 av an ak ne aW aC ag aT aN aF), (aw, .inl (cI, 2179, .inl (upd g196 x207.toNatClampNeg x195))), (aP, .inl (cB, 400, .inl ft))] H := hP
          have hD : va_D A [(h, oX11 th aw ai ab ac hi re aP ta x192 en x193 0 fa a5 x195 av an ak ne aW aC ag aT aN aF), (aw, .inl (cI, 2179, .inl (upd g196 x207.toNatClampNeg x195))), (aP, .inl (cB, 400, .inl ft))] := hD
          have k210 : wB (upd g196 x207.toNatClampNeg x195) := wB_hi k201 k203 k208 (by decide)
          have k211 : wL (upd g196 x207.toNatClampNeg x195) := wL_out k202 k208 (by decide)
          have k212 : wW (upd g196 x207.toNatClampNeg x195) := wW_hi k203 k208 (by decide)
          generalize hg209 : (upd g196 x207.toNatClampNeg x195) = g209 at hP hD k210 k211 k212
          refine lv_iconst (v := 1) hx hb dX11_readLawLine_114 (by decide) ?_
          have hP9 := hP.sub (ws' := [(h, oX11 th aw ai ab ac hi re aP ta x192 en x193 0 fa a5 x195 av an ak ne aW aC ag aT aN aF), (aw, .inl (cI, 2179, .inl g209)), (aP, .inl (cB, 400, .inl ft))]) [0, 1, 2] rfl
          have hD9 := hD.sub (ws' := [(h, oX11 th aw ai ab ac hi re aP ta x192 en x193 0 fa a5 x195 av an ak ne aW aC ag aT aN aF), (aw, .inl (cI, 2179, .inl g209)), (aP, .inl (cB, 400, .inl ft))]) [0, 1, 2] (by decide) rfl
          exact W.zret (v := 1) hx hb hr (by decide) (fun t ht hW => ⟨⟨1, (x192, x193, (0 : Int32), x195, g209), rfl, ⟨k197, k198, k200, k210, k211, k212, (Or.inr ⟨rfl, (rLn_if hg139 hg147 kc204_0 hg209 (cl_of (k := 1343 + 3 * cN n) k4 (by decide) (by simp only [cN]; have q0 := H_SB; have q1 := tx1; have q2 := tx3; have q4 := k11; have q6 := (eqI c25); have q8 := k134; have q10 := neI c135; have q11 := neI (Ne.symm c135); have q13 := tx145; have q16 := kc160_0; have q17 := k189; obtain ⟨-, -, u18, v18, w18⟩ := kc204_0; have q19 := kc204_1; have q20 := tx207; have q22 := H_n; have q23 : (0 : Int32).toInt = 0 := (by decide); have q24 : (1 : Int32).toInt = 1 := (by decide); have q25 : ((nI kSb16.length) : Int32).toInt = 4 := (by decide); have q26 : ((nI kSb17.length) : Int32).toInt = 3 := (by decide); have q27 : ((nI kSb18.length) : Int32).toInt = 2 := (by decide); unfold Rg at *; omega)) (cl_of (k := 1344 + 3 * cN n) k146 (by decide) (by simp only [cN]; have q0 := H_SB; have q1 := tx1; have q2 := tx3; have q4 := k11; have q6 := (eqI c25); have q8 := k134; have q10 := neI c135; have q11 := neI (Ne.symm c135); have q13 := tx145; have q16 := kc160_0; have q17 := k189; obtain ⟨-, -, u18, v18, w18⟩ := kc204_0; have q19 := kc204_1; have q20 := tx207; have q22 := H_n; have q23 : (0 : Int32).toInt = 0 := (by decide); have q24 : (1 : Int32).toInt = 1 := (by decide); have q25 : ((nI kSb16.length) : Int32).toInt = 4 := (by decide); have q26 : ((nI kSb17.length) : Int32).toInt = 3 := (by decide); have q27 : ((nI kSb18.length) : Int32).toInt = 2 := (by decide); unfold Rg at *; omega)) (cl_of (k := 1345 + 3 * cN n) k208 (by decide) (by simp only [cN]; have q0 := H_SB; have q1 := tx1; have q2 := tx3; have q4 := k11; have q6 := (eqI c25); have q8 := k134; have q10 := neI c135; have q11 := neI (Ne.symm c135); have q13 := tx145; have q16 := kc160_0; have q17 := k189; obtain ⟨-, -, u18, v18, w18⟩ := kc204_0; have q19 := kc204_1; have q20 := tx207; have q22 := H_n; have q23 : (0 : Int32).toInt = 0 := (by decide); have q24 : (1 : Int32).toInt = 1 := (by decide); have q25 : ((nI kSb16.length) : Int32).toInt = 4 := (by decide); have q26 : ((nI kSb17.length) : Int32).toInt = 3 := (by decide); have q27 : ((nI kSb18.length) : Int32).toInt = 2 := (by decide); unfold Rg at *; omega)) H_n (rg_w (rg_lit (n := -1) (by decide)) (by decide))), (by have q0 := H_SB; have q1 := tx1; have q2 := tx3; have q4 := k11; have q6 := (eqI c25); have q8 := k134; have q10 := neI c135; have q11 := neI (Ne.symm c135); have q13 := tx145; have q16 := kc160_0; have q17 := k189; obtain ⟨-, -, u18, v18, w18⟩ := kc204_0; have q19 := kc204_1; have q20 := tx207; have q22 := k200; have q23 := k197; have q24 : (0 : Int32).toInt = 0 := (by decide); have q25 : (1 : Int32).toInt = 1 := (by decide); have q26 : ((nI kSb16.length) : Int32).toInt = 4 := (by decide); have q27 : ((nI kSb17.length) : Int32).toInt = 3 := (by decide); have q28 : ((nI kSb18.length) : Int32).toInt = 2 := (by decide); unfold Rg at *; omega)⟩)⟩, by rw [ht]; exact hP9, va_K.moved hW.alike hK, hD9⟩, hS.F ht⟩) hS.2.2 dX11_readLawLine_115
    · skip
      have k213 : Rg r132 0 0 := rg_q1 (eqI c135) k133 (rg_lit (n := 0) (by decide)) (by decide)
      refine lv_iconst (v := 0) hx hb dX11_readLawLine_28 (by decide) ?_
      have hP9 := hP.sub (ws' := [(h, oX11 th aw ai ab ac hi re aP ta po en be de fa a5 sp av an ak ne aW aC ag aT aN aF), (aw, .inl (cI, 2179, .inl fw)), (aP, .inl (cB, 400, .inl ft))]) [0, 1, 2] rfl
      have hD9 := hD.sub (ws' := [(h, oX11 th aw ai ab ac hi re aP ta po en be de fa a5 sp av an ak ne aW aC ag aT aN aF), (aw, .inl (cI, 2179, .inl fw)), (aP, .inl (cB, 400, .inl ft))]) [0, 1, 2] (by decide) rfl
      exact W.zret (v := 0) hx hb hr (by decide) (fun t ht hW => ⟨⟨0, (po, be, de, sp, fw), rfl, ⟨H_po, H_be, H_sp, H_fw_B, H_fw_L, H_fw_W, (Or.inl rfl)⟩, by rw [ht]; exact hP9, va_K.moved hW.alike hK, hD9⟩, hS.F ht⟩) hS.2.2 dX11_readLawLine_29

def kwX11_readLine : List Cond := .code yX11_readLine cX11_readLine 3 (some .boolean) :: kG
theorem hdX11_readLine : yX11_readLine.cls ≠ "java/lang/invoke/MethodHandle" ∧ yX11_readLine.cls ≠ "java/lang/invoke/VarHandle" ∧ (parseMethodDescriptor yX11_readLine.desc).map (fun d => d.parameters.length) = some 2 := by decide +kernel
theorem gX11_readLine_X11_letters : GoodIn kG (wsV RX11 111 RX11 yX11_letters kwX11_letters) := gK w18_23 (gK w19_0 (gK w19_1 (gK w0_5 (gK w19_2 gGG))))
theorem gX11_readLine_X11_readLawLine : GoodIn kG (wsV RX11 244 RX11 yX11_readLawLine kwX11_readLawLine) := gK w21_13 (gK w21_14 (gK w21_15 (gK w0_5 (gK w21_16 gGG))))
theorem dX11_readLine_0 : decode cX11_readLine 0 = .ok (.aload_n 0, 1) := by decide +kernel
theorem dX11_readLine_1 : decode cX11_readLine 1 = .ok (.invokevirtual 111, 3) := by decide +kernel
theorem dX11_readLine_4 : decode cX11_readLine 4 = .ok (.iload_n 2, 1) := by decide +kernel
theorem dX11_readLine_5 : decode cX11_readLine 5 = .ok (.iload_n 1, 1) := by decide +kernel
theorem dX11_readLine_6 : decode cX11_readLine 6 = .ok (.ifCond .eq 8, 3) := by decide +kernel
theorem dX11_readLine_14 : decode cX11_readLine 14 = .ok (.bipush 12, 2) := by decide +kernel
theorem dX11_readLine_16 : decode cX11_readLine 16 = .ok (.if_icmp .ge 29, 3) := by decide +kernel
theorem dX11_readLine_19 : decode cX11_readLine 19 = .ok (.iload_n 1, 1) := by decide +kernel
theorem dX11_readLine_20 : decode cX11_readLine 20 = .ok (.ifCond .eq 13, 3) := by decide +kernel
theorem dX11_readLine_33 : decode cX11_readLine 33 = .ok (.aload_n 0, 1) := by decide +kernel
theorem dX11_readLine_34 : decode cX11_readLine 34 = .ok (.iload_n 2, 1) := by decide +kernel
theorem dX11_readLine_35 : decode cX11_readLine 35 = .ok (.invokevirtual 244, 3) := by decide +kernel
theorem dX11_readLine_38 : decode cX11_readLine 38 = .ok (.ifCond .eq 7, 3) := by decide +kernel
theorem dX11_readLine_41 : decode cX11_readLine 41 = .ok (.iconst 1, 1) := by decide +kernel
theorem dX11_readLine_42 : decode cX11_readLine 42 = .ok (.goto 4, 3) := by decide +kernel
theorem dX11_readLine_45 : decode cX11_readLine 45 = .ok (.iconst 0, 1) := by decide +kernel
theorem dX11_readLine_46 : decode cX11_readLine 46 = .ok (.ireturn, 1) := by decide +kernel
set_option maxHeartbeats 4000000 in
set_option maxRecDepth 100000 in
/-- reference: readLine -/
theorem r_readLine0 (l : Launch) (D : va_G) (cI cJ cB cC : ClassId) (h : Nat) (th : Int32) (aw : Nat) (ai : Nat) (ab : Nat) (ac : Nat) (hi : Int32) (re : Int32) (aP : Nat) (ta : Int32) (po : Int32) (en : Int32) (be : Int32) (de : Int32) (fa : Int32) (a5 : Nat) (sp : Int32) (av : Nat) (an : Nat) (ak : Nat) (ne : Int32) (aW : Nat) (aC : Nat) (ag : Nat) (aT : Nat) (aN : Nat) (aF : Nat) (fw : Nat → Int32) (ft : Nat → Int32) (n : Int32) (sz : Nat) (H_po : Rg po 0 400) (H_en : Rg en 0 400) (H_sp : Rg sp 0 400) (H_n : Rg n 0 65535) (H_fw_W : wW fw) (H_fw_B : wB fw) (H_fw_L : wL fw) (H_SQ : (sp : Int32).toInt ≤ (po : Int32).toInt) : Met l yX11_readLine kwX11_readLine ({ frames := 29, cells := 0, slots := 0, locals := 599 } : Room) (kPre D (kT cI cJ cB cC) sz [(h, oX11 th aw ai ab ac hi re aP ta po en be de fa a5 sp av an ak ne aW aC ag aT aN aF), (aw, .inl (cI, 2179, .inl fw)), (aP, .inl (cB, 400, .inl ft))] [.ref h, .int 0, .int n]) (va_Qi (fun (r : Int32) (uu : Int32 × Int32 × Int32 × Int32 × (Nat → Int32)) => match uu with | (n0_, n1_, n2_, n3_, f4_) => Rg n0_ 0 400 ∧ Rg n1_ 0 400 ∧ Rg n3_ 0 400 ∧ wB f4_ ∧ wL f4_ ∧ wW f4_ ∧ ((r = 0) ∨ (r = 1 ∧ Rg n 0 11 ∧ rLn fw f4_ n sp n3_ ∧ (n3_ : Int32).toInt ≤ (n0_ : Int32).toInt))) (fun (uu : Int32 × Int32 × Int32 × Int32 × (Nat → Int32)) (t : State) => match uu with | (n0_, n1_, n2_, n3_, f4_) => kB D (kT cI cJ cB cC) (va_A [(h, oX11 th aw ai ab ac hi re aP ta po en be de fa a5 sp av an ak ne aW aC ag aT aN aF), (aw, .inl (cI, 2179, .inl fw)), (aP, .inl (cB, 400, .inl ft))] sz) [(h, oX11 th aw ai ab ac hi re aP ta n0_ en n1_ n2_ fa a5 n3_ av an ak ne aW aC ag aT aN aF), (aw, .inl (cI, 2179, .inl f4_)), (aP, .inl (cB, 400, .inl ft))] t) (va_A [(h, oX11 th aw ai ab ac hi re aP ta po en be de fa a5 sp av an ak ne aW aC ag aT aN aF), (aw, .inl (cI, 2179, .inl fw)), (aP, .inl (cB, 400, .inl ft))] sz)) 0 0 (va_A [(h, oX11 th aw ai ab ac hi re aP ta po en be de fa a5 sp av an ak ne aW aC ag aT aN aF), (aw, .inl (cI, 2179, .inl fw)), (aP, .inl (cB, 400, .inl ft))] sz) := by
  refine Met.ofW (cc := cX11_readLine) (maxL := 3) (ret := (some .boolean)) (by decide) rfl ?_
  intro p e s m args below meth c s₁ B hml hv
  obtain ⟨rfl, hsz, hN, hE, hP, hK, hD0⟩ := hv
  have hx := B.exec
  have hb := B.bytes
  have hr := B.returns
  have hts := fun (w : Cond) (h : w ∈ kG) => atoms_spec (ws := kwX11_readLine) B.pre w (List.mem_cons_of_mem _ h)
  have hown : s.vm.findClass RX11 = some m.cls := findClass_of_methodNamed B.named
  subst hsz
  have hD := hD0.self (sz := s.heap.size)
  generalize hAe : va_A [(h, oX11 th aw ai ab ac hi re aP ta po en be de fa a5 sp av an ak ne aW aC ag aT aN aF), (aw, .inl (cI, 2179, .inl fw)), (aP, .inl (cB, 400, .inl ft))] s.heap.size = A at hD hE ⊢
  have hA : ∀ q : Nat, s.heap.size ≤ q → A q := fun q h => by rw [← hAe]; exact Or.inr h
  have hl := lv_entry ([.ref h, .int 0, .int n]) (n := 3) (Nat.le_of_ble_eq_true rfl)
  rw [lg_entry_eq]
  generalize (lg_sl ([.ref h, .int 0, .int n]) ++ List.replicate (3 - (lg_sl ([.ref h, .int 0, .int n])).length) Slot.unset).toArray = ls at hl ⊢
  have hl : lv_has ls 3 [(0, .ref h), (1, .int 0), (2, .int n)] := hl
  obtain ⟨H, hH0⟩ : ∃ H, H = s.heap := ⟨_, rfl⟩
  have hS : va_S A s.heap H [] := by rw [hH0]; exact va_S.rf
  have hP : va_P D vwCl [(h, oX11 th aw ai ab ac hi re aP ta po en be de fa a5 sp av an ak ne aW aC ag aT aN aF), (aw, .inl (cI, 2179, .inl fw)), (aP, .inl (cB, 400, .inl ft))] H := by rw [hH0]; exact hP
  refine kHeap hH0 ?_
  clear hH0
  refine lv_aload_n hx hb dX11_readLine_0 rfl (lv_at hl 0 rfl) ?_
  refine kcallv (wc := [(h, oX11 th aw ai ab ac hi re aP ta po en be de fa a5 sp av an ak ne aW aC ag aT aN aF), (aP, .inl (cB, 400, .inl ft))]) (wr := [(aw, .inl (cI, 2179, .inl fw))]) hP hD hS hA [0, 2] [1] rfl rfl (by decide) (by decide) (by decide) (fun hPc hDc hFc => va_runV (As := []) (rest := []) ⟨hx, hb, hml, hown, hts⟩ (r_letters l D cI cJ cB cC h th aw ai ab ac hi re aP ta po en be de fa a5 sp av an ak ne aW aC ag aT aN aF ft H.size H_po H_en) (cwV 0 hts gX11_readLine_X11_letters rfl rfl rfl ⟨rfl, hdX11_letters⟩ ⟨Nat.le_of_ble_eq_true rfl, Nat.le_of_ble_eq_true rfl⟩) ⟨kBlind, va_recv hK hPc (ci := 10) (q0 := 0) rfl rfl, fun U hU hW => ⟨rfl, by rw [hU], hN.warm hW, hE.pass hS hFc hW hU, by rw [hU]; exact hPc, va_K.moved hW.alike hK, hDc⟩⟩ rfl rfl hl.1 rfl (lv_room (Nat.le_of_ble_eq_true rfl)) dX11_readLine_1 ⟨Nat.le_of_ble_eq_true rfl, Nat.le_of_ble_eq_true rfl⟩) (fun u H locs hw hP hD hS => ?_)
  obtain ⟨x1, x2⟩ := u
  have hP : va_P D vwCl [(aw, .inl (cI, 2179, .inl fw)), (h, oX11 th aw ai ab ac hi re aP ta x1 en x2 de fa a5 sp av an ak ne aW aC ag aT aN aF), (aP, .inl (cB, 400, .inl ft))] H := hP
  have hD : va_D A [(aw, .inl (cI, 2179, .inl fw)), (h, oX11 th aw ai ab ac hi re aP ta x1 en x2 de fa a5 sp av an ak ne aW aC ag aT aN aF), (aP, .inl (cB, 400, .inl ft))] := hD
  obtain ⟨k3, k4, k5, k6⟩ := hw
  refine lv_iload_n hx hb dX11_readLine_4 rfl (lv_at hl 2 rfl) ?_
  refine lv_iload_n hx hb dX11_readLine_5 rfl (lv_at hl 1 rfl) ?_
  refine lv_if_eq (tgt := 14) hx hb dX11_readLine_6 (by decide) (fun _ => ?_) (fun c8 => absurd (by decide) c8)
  refine lv_bipush (v := 12) hx hb dX11_readLine_14 (by decide) ?_
  refine k_join (hd := 45) (cells2 := 0) (slots2 := 0) (fun (u : (Nat → Int32) × Int32 × Int32 × Int32 × Int32) => match u with | (g34, y35, y36, y37, y38) => []) (fun (u : (Nat → Int32) × Int32 × Int32 × Int32 × Int32) (H : Heap) (locs : List Loc) (ls : Array Slot) => match u with | (g34, y35, y36, y37, y38) => wB g34 ∧ wL g34 ∧ wW g34 ∧ Rg y35 0 400 ∧ Rg y36 0 400 ∧ Rg y38 0 400 ∧ va_P D vwCl [(aw, .inl (cI, 2179, .inl g34)), (h, oX11 th aw ai ab ac hi re aP ta y35 en y36 y37 fa a5 y38 av an ak ne aW aC ag aT aN aF), (aP, .inl (cB, 400, .inl ft))] H ∧ va_D A [(aw, .inl (cI, 2179, .inl g34)), (h, oX11 th aw ai ab ac hi re aP ta y35 en y36 y37 fa a5 y38 av an ak ne aW aC ag aT aN aF), (aP, .inl (cB, 400, .inl ft))] ∧ va_S A s.heap H locs ∧ lv_has ls 3 [(0, .ref h), (1, .int 0), (2, .int n)]) (fun u H locs ls hI => ?_) (fun hJ45 => ?_)
  · skip
    clear hP hD hS hl
    obtain ⟨g34, y35, y36, y37, y38⟩ := u
    obtain ⟨hg34_0, hg34_1, hg34_2, hy35, hy36, hy38, hP, hD, hS, hl⟩ := hI
    have hP : va_P D vwCl [(aw, .inl (cI, 2179, .inl g34)), (h, oX11 th aw ai ab ac hi re aP ta y35 en y36 y37 fa a5 y38 av an ak ne aW aC ag aT aN aF), (aP, .inl (cB, 400, .inl ft))] H := hP
    have hD : va_D A [(aw, .inl (cI, 2179, .inl g34)), (h, oX11 th aw ai ab ac hi re aP ta y35 en y36 y37 fa a5 y38 av an ak ne aW aC ag aT aN aF), (aP, .inl (cB, 400, .inl ft))] := hD
    have hl : lv_has ls 3 [(0, .ref h), (1, .int 0), (2, .int n)] := hl
    refine lv_iconst (v := 0) hx hb dX11_readLine_45 (by decide) ?_
    have hP9 := hP.sub (ws' := [(h, oX11 th aw ai ab ac hi re aP ta y35 en y36 y37 fa a5 y38 av an ak ne aW aC ag aT aN aF), (aw, .inl (cI, 2179, .inl g34)), (aP, .inl (cB, 400, .inl ft))]) [1, 0, 2] rfl
    have hD9 := hD.sub (ws' := [(h, oX11 th aw ai ab ac hi re aP ta y35 en y36 y37 fa a5 y38 av an ak ne aW aC ag aT aN aF), (aw, .inl (cI, 2179, .inl g34)), (aP, .inl (cB, 400, .inl ft))]) [1, 0, 2] (by decide) rfl
    exact W.zret (v := 0) hx hb hr (by decide) (fun t ht hW => ⟨⟨0, (y35, y36, y37, y38, g34), rfl, ⟨hy35, hy36, hy38, hg34_0, hg34_1, hg34_2, (Or.inl rfl)⟩, by rw [ht]; exact hP9, va_K.moved hW.alike hK, hD9⟩, hS.F ht⟩) hS.2.2 dX11_readLine_46
  refine lv_icmp_ge (tgt := 45) hx hb dX11_readLine_16 (by decide) (fun c39 => ?_) (fun c39 => ?_)
  · skip
    have k40 : Rg n 12 65535 := rg_e2 (leI c39) (rg_lit (n := 12) (by decide)) H_n (by decide)
    exact hJ45 (fw, x1, x2, de, sp) _ _ _ ⟨H_fw_B, H_fw_L, H_fw_W, k3, k4, H_sp, hP.sub (ws' := [(aw, .inl (cI, 2179, .inl fw)), (h, oX11 th aw ai ab ac hi re aP ta x1 en x2 de fa a5 sp av an ak ne aW aC ag aT aN aF), (aP, .inl (cB, 400, .inl ft))]) [0, 1, 2] rfl, hD.sub (ws' := [(aw, .inl (cI, 2179, .inl fw)), (h, oX11 th aw ai ab ac hi re aP ta x1 en x2 de fa a5 sp av an ak ne aW aC ag aT aN aF), (aP, .inl (cB, 400, .inl ft))]) [0, 1, 2] (by decide) rfl, hS, lv_sub (l' := [(0, .ref h), (1, .int 0), (2, .int n)]) hl [0, 1, 2] rfl⟩
  · skip
    have k41 : Rg n 0 11 := rg_l1 (nleI c39) H_n (rg_lit (n := 12) (by decide)) (by decide)
    refine lv_iload_n hx hb dX11_readLine_19 rfl (lv_at hl 1 rfl) ?_
    refine lv_if_eq (tgt := 33) hx hb dX11_readLine_20 (by decide) (fun _ => ?_) (fun c59 => absurd (by decide) c59)
    refine lv_aload_n hx hb dX11_readLine_33 rfl (lv_at hl 0 rfl) ?_
    refine lv_iload_n hx hb dX11_readLine_34 rfl (lv_at hl 2 rfl) ?_
    have k60 : (sp : Int32).toInt ≤ (x2 : Int32).toInt := (by have q0 := H_SQ; have q1 := k5; have q3 := k6; have q4 := (nleI c39); have q5 : (0 : Int32).toInt = 0 := (by decide); have q6 : (1 : Int32).toInt = 1 := (by decide); have q7 : (12 : Int32).toInt = 12 := (by decide); unfold Rg at *; omega)
    refine kcalli (wc := [(h, oX11 th aw ai ab ac hi re aP ta x1 en x2 de fa a5 sp av an ak ne aW aC ag aT aN aF), (aw, .inl (cI, 2179, .inl fw)), (aP, .inl (cB, 400, .inl ft))]) (wr := []) hP hD hS hA [1, 0, 2] [] rfl rfl (by decide) (by decide) (by decide) (fun hPc hDc hFc => va_runV (As := [.int n]) (rest := []) ⟨hx, hb, hml, hown, hts⟩ (r_readLawLine l D cI cJ cB cC h th aw ai ab ac hi re aP ta x1 en x2 de fa a5 sp av an ak ne aW aC ag aT aN aF fw ft n H.size k3 H_en k4 H_sp k41 H_fw_W H_fw_B H_fw_L k60) (cwV 1 hts gX11_readLine_X11_readLawLine rfl rfl rfl ⟨rfl, hdX11_readLawLine⟩ ⟨Nat.le_of_ble_eq_true rfl, Nat.le_of_ble_eq_true rfl⟩) ⟨kBlind, va_recv hK hPc (ci := 10) (q0 := 0) rfl rfl, fun U hU hW => ⟨rfl, by rw [hU], hN.warm hW, hE.pass hS hFc hW hU, by rw [hU]; exact hPc, va_K.moved hW.alike hK, hDc⟩⟩ rfl rfl hl.1 rfl (lv_room (Nat.le_of_ble_eq_true rfl)) dX11_readLine_35 ⟨Nat.le_of_ble_eq_true rfl, Nat.le_of_ble_eq_true rfl⟩) (fun r61 u H locs hw hP hD hS => ?_)
    obtain ⟨x62, x63, x64, x65, g66⟩ := u
    have hP : va_P D vwCl [(h, oX11 th aw ai ab ac hi re aP ta x62 en x63 x64 fa a5 x65 av an ak ne aW aC ag aT aN aF), (aw, .inl (cI, 2179, .inl g66)), (aP, .inl (cB, 400, .inl ft))] H := hP
    have hD : va_D A [(h, oX11 th aw ai ab ac hi re aP ta x62 en x63 x64 fa a5 x65 av an ak ne aW aC ag aT aN aF), (aw, .inl (cI, 2179, .inl g66)), (aP, .inl (cB, 400, .inl ft))] := hD
    obtain ⟨k67, k68, k69, k70, k71, k72, hw⟩ := hw
    rcases hw with rfl | ⟨rfl, kc73_0, kc73_1⟩
    · skip
      refine lv_if_eq (tgt := 45) hx hb dX11_readLine_38 (by decide) (fun _ => ?_) (fun c74 => absurd (by decide) c74)
      exact hJ45 (g66, x62, x63, x64, x65) _ _ _ ⟨k70, k71, k72, k67, k68, k69, hP.sub (ws' := [(aw, .inl (cI, 2179, .inl g66)), (h, oX11 th aw ai ab ac hi re aP ta x62 en x63 x64 fa a5 x65 av an ak ne aW aC ag aT aN aF), (aP, .inl (cB, 400, .inl ft))]) [1, 0, 2] rfl, hD.sub (ws' := [(aw, .inl (cI, 2179, .inl g66)), (h, oX11 th aw ai ab ac hi re aP ta x62 en x63 x64 fa a5 x65 av an ak ne aW aC ag aT aN aF), (aP, .inl (cB, 400, .inl ft))]) [1, 0, 2] (by decide) rfl, hS, lv_sub (l' := [(0, .ref h), (1, .int 0), (2, .int n)]) hl [0, 1, 2] rfl⟩
    · skip
      refine lv_if_eq (tgt := 45) hx hb dX11_readLine_38 (by decide) (fun c75 => absurd c75 (by decide)) (fun _ => ?_)
      refine lv_iconst (v := 1) hx hb dX11_readLine_41 (by decide) ?_
      refine lv_goto (tgt := 46) hx hb dX11_readLine_42 (by decide) ?_
      have hP9 := hP.sub (ws' := [(h, oX11 th aw ai ab ac hi re aP ta x62 en x63 x64 fa a5 x65 av an ak ne aW aC ag aT aN aF), (aw, .inl (cI, 2179, .inl g66)), (aP, .inl (cB, 400, .inl ft))]) [0, 1, 2] rfl
      have hD9 := hD.sub (ws' := [(h, oX11 th aw ai ab ac hi re aP ta x62 en x63 x64 fa a5 x65 av an ak ne aW aC ag aT aN aF), (aw, .inl (cI, 2179, .inl g66)), (aP, .inl (cB, 400, .inl ft))]) [0, 1, 2] (by decide) rfl
      exact W.zret (v := 1) hx hb hr (by decide) (fun t ht hW => ⟨⟨1, (x62, x63, x64, x65, g66), rfl, ⟨k67, k68, k69, k70, k71, k72, (Or.inr ⟨rfl, k41, kc73_0, (by have q0 := H_SQ; have q1 := k5; have q3 := k6; have q4 := (nleI c39); have q5 := k60; have q7 := kc73_1; have q8 := k69; have q9 := k67; have q10 : (0 : Int32).toInt = 0 := (by decide); have q11 : (1 : Int32).toInt = 1 := (by decide); have q12 : (12 : Int32).toInt = 12 := (by decide); unfold Rg at *; omega)⟩)⟩, by rw [ht]; exact hP9, va_K.moved hW.alike hK, hD9⟩, hS.F ht⟩) hS.2.2 dX11_readLine_46

def kwX11_readAll : List Cond := .code yX11_readAll cX11_readAll 3 (some .int) :: kG
theorem hdX11_readAll : yX11_readAll.cls ≠ "java/lang/invoke/MethodHandle" ∧ yX11_readAll.cls ≠ "java/lang/invoke/VarHandle" ∧ (parseMethodDescriptor yX11_readAll.desc).map (fun d => d.parameters.length) = some 1 := by decide +kernel
theorem gX11_readAll_X11_blanks : GoodIn kG (wsV RX11 99 RX11 yX11_blanks kwX11_blanks) := gK w18_11 (gK w18_12 (gK w18_13 (gK w0_5 (gK w18_14 gGG))))
theorem gX11_readAll_X11_isAt : GoodIn kG (wsV RX11 92 RX11 yX11_isAt kwX11_isAt) := gK w18_15 (gK w18_16 (gK w18_17 (gK w0_5 (gK w18_18 gGG))))
theorem gX11_readAll_X11_readLine : GoodIn kG (wsV RX11 250 RX11 yX11_readLine kwX11_readLine) := gK w18_19 (gK w18_20 (gK w18_21 (gK w0_5 (gK w18_22 gGG))))
theorem gX11_readAll_X11_uses : GoodIn kG (wsV RX11 247 RX11 yX11_uses kwX11_uses) := gK w18_7 (gK w18_8 (gK w18_9 (gK w0_5 (gK w18_10 gGG))))
theorem dX11_readAll_0 : decode cX11_readAll 0 = .ok (.aload_n 0, 1) := by decide +kernel
theorem dX11_readAll_1 : decode cX11_readAll 1 = .ok (.invokevirtual 247, 3) := by decide +kernel
theorem dX11_readAll_4 : decode cX11_readAll 4 = .ok (.aload_n 0, 1) := by decide +kernel
theorem dX11_readAll_5 : decode cX11_readAll 5 = .ok (.iconst 0, 1) := by decide +kernel
theorem dX11_readAll_6 : decode cX11_readAll 6 = .ok (.putfield 181, 3) := by decide +kernel
theorem dX11_readAll_9 : decode cX11_readAll 9 = .ok (.aload_n 0, 1) := by decide +kernel
theorem dX11_readAll_10 : decode cX11_readAll 10 = .ok (.invokevirtual 99, 3) := by decide +kernel
theorem dX11_readAll_13 : decode cX11_readAll 13 = .ok (.aload_n 0, 1) := by decide +kernel
theorem dX11_readAll_14 : decode cX11_readAll 14 = .ok (.getfield 86, 3) := by decide +kernel
theorem dX11_readAll_17 : decode cX11_readAll 17 = .ok (.aload_n 0, 1) := by decide +kernel
theorem dX11_readAll_18 : decode cX11_readAll 18 = .ok (.getfield 89, 3) := by decide +kernel
theorem dX11_readAll_21 : decode cX11_readAll 21 = .ok (.if_icmp .ne 5, 3) := by decide +kernel
theorem dX11_readAll_24 : decode cX11_readAll 24 = .ok (.iconst 0, 1) := by decide +kernel
theorem dX11_readAll_25 : decode cX11_readAll 25 = .ok (.ireturn, 1) := by decide +kernel
theorem dX11_readAll_26 : decode cX11_readAll 26 = .ok (.iconst 0, 1) := by decide +kernel
theorem dX11_readAll_27 : decode cX11_readAll 27 = .ok (.istore_n 2, 1) := by decide +kernel
theorem dX11_readAll_28 : decode cX11_readAll 28 = .ok (.aload_n 0, 1) := by decide +kernel
theorem dX11_readAll_29 : decode cX11_readAll 29 = .ok (.iload_n 1, 1) := by decide +kernel
theorem dX11_readAll_30 : decode cX11_readAll 30 = .ok (.iload_n 2, 1) := by decide +kernel
theorem dX11_readAll_31 : decode cX11_readAll 31 = .ok (.invokevirtual 250, 3) := by decide +kernel
theorem dX11_readAll_34 : decode cX11_readAll 34 = .ok (.ifCond .ne 5, 3) := by decide +kernel
theorem dX11_readAll_37 : decode cX11_readAll 37 = .ok (.iconst (-1), 1) := by decide +kernel
theorem dX11_readAll_38 : decode cX11_readAll 38 = .ok (.ireturn, 1) := by decide +kernel
theorem dX11_readAll_39 : decode cX11_readAll 39 = .ok (.aload_n 0, 1) := by decide +kernel
theorem dX11_readAll_40 : decode cX11_readAll 40 = .ok (.invokevirtual 99, 3) := by decide +kernel
theorem dX11_readAll_43 : decode cX11_readAll 43 = .ok (.aload_n 0, 1) := by decide +kernel
theorem dX11_readAll_44 : decode cX11_readAll 44 = .ok (.getfield 86, 3) := by decide +kernel
theorem dX11_readAll_47 : decode cX11_readAll 47 = .ok (.aload_n 0, 1) := by decide +kernel
theorem dX11_readAll_48 : decode cX11_readAll 48 = .ok (.getfield 89, 3) := by decide +kernel
theorem dX11_readAll_51 : decode cX11_readAll 51 = .ok (.if_icmp .ne 7, 3) := by decide +kernel
theorem dX11_readAll_54 : decode cX11_readAll 54 = .ok (.iload_n 2, 1) := by decide +kernel
theorem dX11_readAll_55 : decode cX11_readAll 55 = .ok (.iconst 1, 1) := by decide +kernel
theorem dX11_readAll_56 : decode cX11_readAll 56 = .ok (.iadd, 1) := by decide +kernel
theorem dX11_readAll_57 : decode cX11_readAll 57 = .ok (.ireturn, 1) := by decide +kernel
theorem dX11_readAll_58 : decode cX11_readAll 58 = .ok (.aload_n 0, 1) := by decide +kernel
theorem dX11_readAll_59 : decode cX11_readAll 59 = .ok (.bipush 59, 2) := by decide +kernel
theorem dX11_readAll_61 : decode cX11_readAll 61 = .ok (.bipush 59, 2) := by decide +kernel
theorem dX11_readAll_63 : decode cX11_readAll 63 = .ok (.invokevirtual 92, 3) := by decide +kernel
theorem dX11_readAll_66 : decode cX11_readAll 66 = .ok (.ifCond .ne 5, 3) := by decide +kernel
theorem dX11_readAll_69 : decode cX11_readAll 69 = .ok (.iconst (-1), 1) := by decide +kernel
theorem dX11_readAll_70 : decode cX11_readAll 70 = .ok (.ireturn, 1) := by decide +kernel
theorem dX11_readAll_71 : decode cX11_readAll 71 = .ok (.aload_n 0, 1) := by decide +kernel
theorem dX11_readAll_72 : decode cX11_readAll 72 = .ok (.dup, 1) := by decide +kernel
theorem dX11_readAll_73 : decode cX11_readAll 73 = .ok (.getfield 86, 3) := by decide +kernel
theorem dX11_readAll_76 : decode cX11_readAll 76 = .ok (.iconst 1, 1) := by decide +kernel
theorem dX11_readAll_77 : decode cX11_readAll 77 = .ok (.iadd, 1) := by decide +kernel
theorem dX11_readAll_78 : decode cX11_readAll 78 = .ok (.putfield 86, 3) := by decide +kernel
theorem dX11_readAll_81 : decode cX11_readAll 81 = .ok (.iinc 2 1, 3) := by decide +kernel
theorem dX11_readAll_84 : decode cX11_readAll 84 = .ok (.goto (-56), 3) := by decide +kernel
set_option maxHeartbeats 4000000 in
set_option maxRecDepth 100000 in
/-- reference: readAll -/
theorem r_readAll0 (l : Launch) (D : va_G) (cI cJ cB cC : ClassId) (h : Nat) (th : Int32) (aw : Nat) (ai : Nat) (ab : Nat) (ac : Nat) (hi : Int32) (re : Int32) (aP : Nat) (ta : Int32) (po : Int32) (en : Int32) (be : Int32) (de : Int32) (fa : Int32) (a5 : Nat) (sp : Int32) (av : Nat) (an : Nat) (ak : Nat) (ne : Int32) (aW : Nat) (aC : Nat) (ag : Nat) (aT : Nat) (aN : Nat) (aF : Nat) (fw : Nat → Int32) (ft : Nat → Int32) (sz : Nat) (H_ta : Rg ta 0 400) (H_fw_W : wW fw) (H_fw_B : wB fw) (H_fw_L : wL fw) : Met l yX11_readAll kwX11_readAll ({ frames := 30, cells := 0, slots := 0, locals := 621 } : Room) (kPre D (kT cI cJ cB cC) sz [(h, oX11 th aw ai ab ac hi re aP ta po en be de fa a5 sp av an ak ne aW aC ag aT aN aF), (aw, .inl (cI, 2179, .inl fw)), (aP, .inl (cB, 400, .inl ft))] [.ref h, .int 0]) (va_Qi (fun (r : Int32) (uu : Int32 × Int32 × Int32 × Int32 × (Nat → Int32)) => match uu with | (n0_, n1_, n2_, n3_, f4_) => Rg n0_ 0 400 ∧ Rg n1_ 0 400 ∧ Rg n3_ 0 400 ∧ wB f4_ ∧ wL f4_ ∧ wW f4_ ∧ Rg r (-1) 12 ∧ (((r : Int32).toInt < 0 ∨ wD f4_ (cN r) (cN n3_)))) (fun (uu : Int32 × Int32 × Int32 × Int32 × (Nat → Int32)) (t : State) => match uu with | (n0_, n1_, n2_, n3_, f4_) => kB D (kT cI cJ cB cC) (va_A [(h, oX11 th aw ai ab ac hi re aP ta po en be de fa a5 sp av an ak ne aW aC ag aT aN aF), (aw, .inl (cI, 2179, .inl fw)), (aP, .inl (cB, 400, .inl ft))] sz) [(h, oX11 0 aw ai ab ac hi re aP 0 n0_ ta n1_ n2_ fa a5 n3_ av an ak ne aW aC ag aT aN aF), (aw, .inl (cI, 2179, .inl f4_)), (aP, .inl (cB, 400, .inl ft))] t) (va_A [(h, oX11 th aw ai ab ac hi re aP ta po en be de fa a5 sp av an ak ne aW aC ag aT aN aF), (aw, .inl (cI, 2179, .inl fw)), (aP, .inl (cB, 400, .inl ft))] sz)) 0 0 (va_A [(h, oX11 th aw ai ab ac hi re aP ta po en be de fa a5 sp av an ak ne aW aC ag aT aN aF), (aw, .inl (cI, 2179, .inl fw)), (aP, .inl (cB, 400, .inl ft))] sz) := by
  refine Met.ofW (cc := cX11_readAll) (maxL := 3) (ret := (some .int)) (by decide) rfl ?_
  intro p e s m args below meth c s₁ B hml hv
  obtain ⟨rfl, hsz, hN, hE, hP, hK, hD0⟩ := hv
  have hx := B.exec
  have hb := B.bytes
  have hr := B.returns
  have hts := fun (w : Cond) (h : w ∈ kG) => atoms_spec (ws := kwX11_readAll) B.pre w (List.mem_cons_of_mem _ h)
  have hown : s.vm.findClass RX11 = some m.cls := findClass_of_methodNamed B.named
  subst hsz
  have hD := hD0.self (sz := s.heap.size)
  generalize hAe : va_A [(h, oX11 th aw ai ab ac hi re aP ta po en be de fa a5 sp av an ak ne aW aC ag aT aN aF), (aw, .inl (cI, 2179, .inl fw)), (aP, .inl (cB, 400, .inl ft))] s.heap.size = A at hD hE ⊢
  have hA : ∀ q : Nat, s.heap.size ≤ q → A q := fun q h => by rw [← hAe]; exact Or.inr h
  have hl := lv_entry ([.ref h, .int 0]) (n := 3) (Nat.le_of_ble_eq_true rfl)
  rw [lg_entry_eq]
  generalize (lg_sl ([.ref h, .int 0]) ++ List.replicate (3 - (lg_sl ([.ref h, .int 0])).length) Slot.unset).toArray = ls at hl ⊢
  have hl : lv_has ls 3 [(0, .ref h), (1, .int 0)] := hl
  obtain ⟨H, hH0⟩ : ∃ H, H = s.heap := ⟨_, rfl⟩
  have hS : va_S A s.heap H [] := by rw [hH0]; exact va_S.rf
  have hP : va_P D vwCl [(h, oX11 th aw ai ab ac hi re aP ta po en be de fa a5 sp av an ak ne aW aC ag aT aN aF), (aw, .inl (cI, 2179, .inl fw)), (aP, .inl (cB, 400, .inl ft))] H := by rw [hH0]; exact hP
  refine kHeap hH0 ?_
  clear hH0
  refine lv_aload_n hx hb dX11_readAll_0 rfl (lv_at hl 0 rfl) ?_
  refine kcallv (wc := [(h, oX11 th aw ai ab ac hi re aP ta po en be de fa a5 sp av an ak ne aW aC ag aT aN aF)]) (wr := [(aw, .inl (cI, 2179, .inl fw)), (aP, .inl (cB, 400, .inl ft))]) hP hD hS hA [0] [1, 2] rfl rfl (by decide) (by decide) (by decide) (fun hPc hDc hFc => va_runV (As := []) (rest := []) ⟨hx, hb, hml, hown, hts⟩ (r_uses l D cI cJ cB cC h th aw ai ab ac hi re aP ta po en be de fa a5 sp av an ak ne aW aC ag aT aN aF H.size H_ta) (cwV 0 hts gX11_readAll_X11_uses rfl rfl rfl ⟨rfl, hdX11_uses⟩ ⟨Nat.le_of_ble_eq_true rfl, Nat.le_of_ble_eq_true rfl⟩) ⟨kBlind, va_recv hK hPc (ci := 10) (q0 := 0) rfl rfl, fun U hU hW => ⟨rfl, by rw [hU], hN.warm hW, hE.pass hS hFc hW hU, by rw [hU]; exact hPc, va_K.moved hW.alike hK, hDc⟩⟩ rfl rfl hl.1 rfl (lv_room (Nat.le_of_ble_eq_true rfl)) dX11_readAll_1 ⟨Nat.le_of_ble_eq_true rfl, Nat.le_of_ble_eq_true rfl⟩) (fun u H locs hw hP hD hS => ?_)
  have hP : va_P D vwCl [(aw, .inl (cI, 2179, .inl fw)), (aP, .inl (cB, 400, .inl ft)), (h, oX11 0 aw ai ab ac hi re aP 0 0 ta be de fa a5 sp av an ak ne aW aC ag aT aN aF)] H := hP
  have hD : va_D A [(aw, .inl (cI, 2179, .inl fw)), (aP, .inl (cB, 400, .inl ft)), (h, oX11 0 aw ai ab ac hi re aP 0 0 ta be de fa a5 sp av an ak ne aW aC ag aT aN aF)] := hD
  refine lv_aload_n hx hb dX11_readAll_4 rfl (lv_at hl 0 rfl) ?_
  refine lv_iconst (v := 0) hx hb dX11_readAll_5 (by decide) ?_
  refine va_put (D := D) (ci := 10) (v := .int 0) (ty := .int) (C := RX11) (T := TX11) (N := 26) hx hb hts iG_X11 tyX11 tyX11_ok nmX11 hown hK hP hD hS 2 rfl rfl 15 (by decide) (hts _ w18_4) (fun _ h9 => h9) rfl (by decide +kernel) rfl rfl (Nat.le_of_ble_eq_true rfl) dX11_readAll_6 (fun H locs hP hD hS => ?_)
  have hP : va_P D vwCl [(aw, .inl (cI, 2179, .inl fw)), (aP, .inl (cB, 400, .inl ft)), (h, oX11 0 aw ai ab ac hi re aP 0 0 ta be de fa a5 0 av an ak ne aW aC ag aT aN aF)] H := hP
  have hD : va_D A [(aw, .inl (cI, 2179, .inl fw)), (aP, .inl (cB, 400, .inl ft)), (h, oX11 0 aw ai ab ac hi re aP 0 0 ta be de fa a5 0 av an ak ne aW aC ag aT aN aF)] := hD
  refine lv_aload_n hx hb dX11_readAll_9 rfl (lv_at hl 0 rfl) ?_
  refine kcallv (wc := [(h, oX11 0 aw ai ab ac hi re aP 0 0 ta be de fa a5 0 av an ak ne aW aC ag aT aN aF), (aP, .inl (cB, 400, .inl ft))]) (wr := [(aw, .inl (cI, 2179, .inl fw))]) hP hD hS hA [2, 1] [0] rfl rfl (by decide) (by decide) (by decide) (fun hPc hDc hFc => va_runV (As := []) (rest := []) ⟨hx, hb, hml, hown, hts⟩ (r_blanks l D cI cJ cB cC h 0 aw ai ab ac hi re aP 0 0 ta be de fa a5 0 av an ak ne aW aC ag aT aN aF ft H.size (rg_w (rg_lit (n := 0) (by decide)) (by decide)) H_ta) (cwV 0 hts gX11_readAll_X11_blanks rfl rfl rfl ⟨rfl, hdX11_blanks⟩ ⟨Nat.le_of_ble_eq_true rfl, Nat.le_of_ble_eq_true rfl⟩) ⟨kBlind, va_recv hK hPc (ci := 10) (q0 := 0) rfl rfl, fun U hU hW => ⟨rfl, by rw [hU], hN.warm hW, hE.pass hS hFc hW hU, by rw [hU]; exact hPc, va_K.moved hW.alike hK, hDc⟩⟩ rfl rfl hl.1 rfl (lv_room (Nat.le_of_ble_eq_true rfl)) dX11_readAll_10 ⟨Nat.le_of_ble_eq_true rfl, Nat.le_of_ble_eq_true rfl⟩) (fun u H locs hw hP hD hS => ?_)
  obtain ⟨x1, x2⟩ := u
  have hP : va_P D vwCl [(aw, .inl (cI, 2179, .inl fw)), (h, oX11 0 aw ai ab ac hi re aP 0 x1 ta x2 de fa a5 0 av an ak ne aW aC ag aT aN aF), (aP, .inl (cB, 400, .inl ft))] H := hP
  have hD : va_D A [(aw, .inl (cI, 2179, .inl fw)), (h, oX11 0 aw ai ab ac hi re aP 0 x1 ta x2 de fa a5 0 av an ak ne aW aC ag aT aN aF), (aP, .inl (cB, 400, .inl ft))] := hD
  obtain ⟨k3, k4, k5, k6⟩ := hw
  refine lv_aload_n hx hb dX11_readAll_13 rfl (lv_at hl 0 rfl) ?_
  refine va_get (D := D) (ci := 10) (v := .int x1) (C := RX11) (T := TX11) (N := 26) hx hb hts iG_X11 hown hK hP 1 rfl rfl 9 (by decide) (hts _ w18_5) (fun _ h9 => h9) rfl dX11_readAll_14 ?_
  refine lv_aload_n hx hb dX11_readAll_17 rfl (lv_at hl 0 rfl) ?_
  refine va_get (D := D) (ci := 10) (v := .int ta) (C := RX11) (T := TX11) (N := 26) hx hb hts iG_X11 hown hK hP 1 rfl rfl 10 (by decide) (hts _ w18_6) (fun _ h9 => h9) rfl dX11_readAll_18 ?_
  refine lv_icmp_ne (tgt := 26) hx hb dX11_readAll_21 (by decide) (fun c7 => ?_) (fun c7 => ?_)
  · skip
    refine lv_iconst (v := 0) hx hb dX11_readAll_26 (by decide) ?_
    refine lv_istore_n (lv' := [(2, .int 0), (0, .ref h), (1, .int 0)]) hx hb dX11_readAll_27 rfl hl (by decide) rfl (fun ls hl => ?_)
    refine k_loop (hd := 28) (fun (u : Int32 × (Nat → Int32) × Int32 × Int32 × Int32 × Int32) => match u with | (y576, g577, y578, y579, y580, y581) => (12 - (y576).toInt).toNat) (fun (u : Int32 × (Nat → Int32) × Int32 × Int32 × Int32 × Int32) (H : Heap) (locs : List Loc) (ls : Array Slot) => match u with | (y576, g577, y578, y579, y580, y581) => (wD g577 (cN y576) (cN y581)) ∧ ((y581 : Int32).toInt ≤ (y578 : Int32).toInt) ∧ Rg y576 0 12 ∧ wB g577 ∧ wL g577 ∧ wW g577 ∧ Rg y578 0 400 ∧ Rg y579 0 400 ∧ Rg y581 0 400 ∧ va_P D vwCl [(aw, .inl (cI, 2179, .inl g577)), (h, oX11 0 aw ai ab ac hi re aP 0 y578 ta y579 y580 fa a5 y581 av an ak ne aW aC ag aT aN aF), (aP, .inl (cB, 400, .inl ft))] H ∧ va_D A [(aw, .inl (cI, 2179, .inl g577)), (h, oX11 0 aw ai ab ac hi re aP 0 y578 ta y579 y580 fa a5 y581 av an ak ne aW aC ag aT aN aF), (aP, .inl (cB, 400, .inl ft))] ∧ va_S A s.heap H locs ∧ lv_has ls 3 [(2, .int y576), (0, .ref h), (1, .int 0)]) ((0 : Int32), fw, x1, x2, de, (0 : Int32)) ⟨(wD_0 _ _), (by have q0 := k5; have q2 := congrArg Int32.toInt k6; have q3 := neI c7; have q4 := neI (Ne.symm c7); have q5 := k3; have q6 : (0 : Int32).toInt = 0 := (by decide); have q7 : (1 : Int32).toInt = 1 := (by decide); unfold Rg at *; omega), (rg_w (rg_lit (n := 0) (by decide)) (by decide)), H_fw_B, H_fw_L, H_fw_W, k3, k4, (rg_w (rg_lit (n := 0) (by decide)) (by decide)), hP.sub (ws' := [(aw, .inl (cI, 2179, .inl fw)), (h, oX11 0 aw ai ab ac hi re aP 0 x1 ta x2 de fa a5 0 av an ak ne aW aC ag aT aN aF), (aP, .inl (cB, 400, .inl ft))]) [0, 1, 2] rfl, hD.sub (ws' := [(aw, .inl (cI, 2179, .inl fw)), (h, oX11 0 aw ai ab ac hi re aP 0 x1 ta x2 de fa a5 0 av an ak ne aW aC ag aT aN aF), (aP, .inl (cB, 400, .inl ft))]) [0, 1, 2] (by decide) rfl, hS, lv_sub (l' := [(2, .int 0), (0, .ref h), (1, .int 0)]) hl [0, 1, 2] rfl⟩ (fun u H locs ls hI ih582 => ?_)
    clear hP hD hS hl
    obtain ⟨y576, g577, y578, y579, y580, y581⟩ := u
    obtain ⟨hX28_0, hX28_1, hy576, hg577_0, hg577_1, hg577_2, hy578, hy579, hy581, hP, hD, hS, hl⟩ := hI
    have hP : va_P D vwCl [(aw, .inl (cI, 2179, .inl g577)), (h, oX11 0 aw ai ab ac hi re aP 0 y578 ta y579 y580 fa a5 y581 av an ak ne aW aC ag aT aN aF), (aP, .inl (cB, 400, .inl ft))] H := hP
    have hD : va_D A [(aw, .inl (cI, 2179, .inl g577)), (h, oX11 0 aw ai ab ac hi re aP 0 y578 ta y579 y580 fa a5 y581 av an ak ne aW aC ag aT aN aF), (aP, .inl (cB, 400, .inl ft))] := hD
    have hl : lv_has ls 3 [(2, .int y576), (0, .ref h), (1, .int 0)] := hl
    refine lv_aload_n hx hb dX11_readAll_28 rfl (lv_at hl 1 rfl) ?_
    refine lv_iload_n hx hb dX11_readAll_29 rfl (lv_at hl 2 rfl) ?_
    refine lv_iload_n hx hb dX11_readAll_30 rfl (lv_at hl 0 rfl) ?_
    refine kcalli (wc := [(h, oX11 0 aw ai ab ac hi re aP 0 y578 ta y579 y580 fa a5 y581 av an ak ne aW aC ag aT aN aF), (aw, .inl (cI, 2179, .inl g577)), (aP, .inl (cB, 400, .inl ft))]) (wr := []) hP hD hS hA [1, 0, 2] [] rfl rfl (by decide) (by decide) (by decide) (fun hPc hDc hFc => va_runV (As := [.int 0, .int y576]) (rest := []) ⟨hx, hb, hml, hown, hts⟩ (r_readLine0 l D cI cJ cB cC h 0 aw ai ab ac hi re aP 0 y578 ta y579 y580 fa a5 y581 av an ak ne aW aC ag aT aN aF g577 ft y576 H.size hy578 H_ta hy581 (rg_w hy576 (by decide)) hg577_2 hg577_0 hg577_1 hX28_1) (cwV 2 hts gX11_readAll_X11_readLine rfl rfl rfl ⟨rfl, hdX11_readLine⟩ ⟨Nat.le_of_ble_eq_true rfl, Nat.le_of_ble_eq_true rfl⟩) ⟨kBlind, va_recv hK hPc (ci := 10) (q0 := 0) rfl rfl, fun U hU hW => ⟨rfl, by rw [hU], hN.warm hW, hE.pass hS hFc hW hU, by rw [hU]; exact hPc, va_K.moved hW.alike hK, hDc⟩⟩ rfl rfl hl.1 rfl (lv_room (Nat.le_of_ble_eq_true rfl)) dX11_readAll_31 ⟨Nat.le_of_ble_eq_true rfl, Nat.le_of_ble_eq_true rfl⟩) (fun r583 u H locs hw hP hD hS => ?_)
    obtain ⟨x584, x585, x586, x587, g588⟩ := u
    have hP : va_P D vwCl [(h, oX11 0 aw ai ab ac hi re aP 0 x584 ta x585 x586 fa a5 x587 av an ak ne aW aC ag aT aN aF), (aw, .inl (cI, 2179, .inl g588)), (aP, .inl (cB, 400, .inl ft))] H := hP
    have hD : va_D A [(h, oX11 0 aw ai ab ac hi re aP 0 x584 ta x585 x586 fa a5 x587 av an ak ne aW aC ag aT aN aF), (aw, .inl (cI, 2179, .inl g588)), (aP, .inl (cB, 400, .inl ft))] := hD
    obtain ⟨k589, k590, k591, k592, k593, k594, hw⟩ := hw
    rcases hw with rfl | ⟨rfl, kc595_0, kc595_1, kc595_2⟩
    · skip
      refine lv_if_ne (tgt := 39) hx hb dX11_readAll_34 (by decide) (fun c596 => absurd (by decide) c596) (fun _ => ?_)
      refine lv_iconst (v := (-1)) hx hb dX11_readAll_37 (by decide) ?_
      have hP9 := hP.sub (ws' := [(h, oX11 0 aw ai ab ac hi re aP 0 x584 ta x585 x586 fa a5 x587 av an ak ne aW aC ag aT aN aF), (aw, .inl (cI, 2179, .inl g588)), (aP, .inl (cB, 400, .inl ft))]) [0, 1, 2] rfl
      have hD9 := hD.sub (ws' := [(h, oX11 0 aw ai ab ac hi re aP 0 x584 ta x585 x586 fa a5 x587 av an ak ne aW aC ag aT aN aF), (aw, .inl (cI, 2179, .inl g588)), (aP, .inl (cB, 400, .inl ft))]) [0, 1, 2] (by decide) rfl
      exact W.iret (v := (-1)) hx hb hr (fun t ht hW => ⟨⟨(-1), (x584, x585, x586, x587, g588), rfl, ⟨k589, k590, k591, k592, k593, k594, (rg_w (rg_lit (n := -1) (by decide)) (by decide)), (Or.inl (by decide))⟩, by rw [ht]; exact hP9, va_K.moved hW.alike hK, hD9⟩, hS.F ht⟩) hS.2.2 dX11_readAll_38
    · skip
      refine lv_if_ne (tgt := 39) hx hb dX11_readAll_34 (by decide) (fun _ => ?_) (fun c597 => absurd c597 (by decide))
      refine lv_aload_n hx hb dX11_readAll_39 rfl (lv_at hl 1 rfl) ?_
      refine kcallv (wc := [(h, oX11 0 aw ai ab ac hi re aP 0 x584 ta x585 x586 fa a5 x587 av an ak ne aW aC ag aT aN aF), (aP, .inl (cB, 400, .inl ft))]) (wr := [(aw, .inl (cI, 2179, .inl g588))]) hP hD hS hA [0, 2] [1] rfl rfl (by decide) (by decide) (by decide) (fun hPc hDc hFc => va_runV (As := []) (rest := []) ⟨hx, hb, hml, hown, hts⟩ (r_blanks l D cI cJ cB cC h 0 aw ai ab ac hi re aP 0 x584 ta x585 x586 fa a5 x587 av an ak ne aW aC ag aT aN aF ft H.size k589 H_ta) (cwV 0 hts gX11_readAll_X11_blanks rfl rfl rfl ⟨rfl, hdX11_blanks⟩ ⟨Nat.le_of_ble_eq_true rfl, Nat.le_of_ble_eq_true rfl⟩) ⟨kBlind, va_recv hK hPc (ci := 10) (q0 := 0) rfl rfl, fun U hU hW => ⟨rfl, by rw [hU], hN.warm hW, hE.pass hS hFc hW hU, by rw [hU]; exact hPc, va_K.moved hW.alike hK, hDc⟩⟩ rfl rfl hl.1 rfl (lv_room (Nat.le_of_ble_eq_true rfl)) dX11_readAll_40 ⟨Nat.le_of_ble_eq_true rfl, Nat.le_of_ble_eq_true rfl⟩) (fun u H locs hw hP hD hS => ?_)
      obtain ⟨x598, x599⟩ := u
      have hP : va_P D vwCl [(aw, .inl (cI, 2179, .inl g588)), (h, oX11 0 aw ai ab ac hi re aP 0 x598 ta x599 x586 fa a5 x587 av an ak ne aW aC ag aT aN aF), (aP, .inl (cB, 400, .inl ft))] H := hP
      have hD : va_D A [(aw, .inl (cI, 2179, .inl g588)), (h, oX11 0 aw ai ab ac hi re aP 0 x598 ta x599 x586 fa a5 x587 av an ak ne aW aC ag aT aN aF), (aP, .inl (cB, 400, .inl ft))] := hD
      obtain ⟨k600, k601, k602, k603⟩ := hw
      refine lv_aload_n hx hb dX11_readAll_43 rfl (lv_at hl 1 rfl) ?_
      refine va_get (D := D) (ci := 10) (v := .int x598) (C := RX11) (T := TX11) (N := 26) hx hb hts iG_X11 hown hK hP 1 rfl rfl 9 (by decide) (hts _ w18_5) (fun _ h9 => h9) rfl dX11_readAll_44 ?_
      refine lv_aload_n hx hb dX11_readAll_47 rfl (lv_at hl 1 rfl) ?_
      refine va_get (D := D) (ci := 10) (v := .int ta) (C := RX11) (T := TX11) (N := 26) hx hb hts iG_X11 hown hK hP 1 rfl rfl 10 (by decide) (hts _ w18_6) (fun _ h9 => h9) rfl dX11_readAll_48 ?_
      refine lv_icmp_ne (tgt := 58) hx hb dX11_readAll_51 (by decide) (fun c604 => ?_) (fun c604 => ?_)
      · skip
        refine lv_aload_n hx hb dX11_readAll_58 rfl (lv_at hl 1 rfl) ?_
        refine lv_bipush (v := 59) hx hb dX11_readAll_59 (by decide) ?_
        refine lv_bipush (v := 59) hx hb dX11_readAll_61 (by decide) ?_
        refine kpurei (wc := [(h, oX11 0 aw ai ab ac hi re aP 0 x598 ta x599 x586 fa a5 x587 av an ak ne aW aC ag aT aN aF), (aP, .inl (cB, 400, .inl ft))]) hP hD hS hA [1, 2] rfl (by decide) (fun hPc hDc hFc => va_runV (As := [.int 59, .int 59]) (rest := []) ⟨hx, hb, hml, hown, hts⟩ (r_isAt l D cI cJ cB cC h 0 aw ai ab ac hi re aP 0 x598 ta x599 x586 fa a5 x587 av an ak ne aW aC ag aT aN aF ft 59 59 H.size k600 H_ta) (cwV 2 hts gX11_readAll_X11_isAt rfl rfl rfl ⟨rfl, hdX11_isAt⟩ ⟨Nat.le_of_ble_eq_true rfl, Nat.le_of_ble_eq_true rfl⟩) ⟨kBlind, va_recv hK hPc (ci := 10) (q0 := 0) rfl rfl, fun U hU hW => ⟨rfl, by rw [hU], hN.warm hW, hE.pass hS hFc hW hU, by rw [hU]; exact hPc, va_K.moved hW.alike hK, hDc⟩⟩ rfl rfl hl.1 rfl (lv_room (Nat.le_of_ble_eq_true rfl)) dX11_readAll_63 ⟨Nat.le_of_ble_eq_true rfl, Nat.le_of_ble_eq_true rfl⟩) (fun r605 u H locs hw hP hS => ?_)
        rcases hw with rfl | ⟨rfl, kc606_0, kc606_1⟩
        · skip
          refine lv_if_ne (tgt := 71) hx hb dX11_readAll_66 (by decide) (fun c607 => absurd (by decide) c607) (fun _ => ?_)
          refine lv_iconst (v := (-1)) hx hb dX11_readAll_69 (by decide) ?_
          have hP9 := hP.sub (ws' := [(h, oX11 0 aw ai ab ac hi re aP 0 x598 ta x599 x586 fa a5 x587 av an ak ne aW aC ag aT aN aF), (aw, .inl (cI, 2179, .inl g588)), (aP, .inl (cB, 400, .inl ft))]) [1, 0, 2] rfl
          have hD9 := hD.sub (ws' := [(h, oX11 0 aw ai ab ac hi re aP 0 x598 ta x599 x586 fa a5 x587 av an ak ne aW aC ag aT aN aF), (aw, .inl (cI, 2179, .inl g588)), (aP, .inl (cB, 400, .inl ft))]) [1, 0, 2] (by decide) rfl
          exact W.iret (v := (-1)) hx hb hr (fun t ht hW => ⟨⟨(-1), (x598, x599, x586, x587, g588), rfl, ⟨k600, k601, k591, k592, k593, k594, (rg_w (rg_lit (n := -1) (by decide)) (by decide)), (Or.inl (by decide))⟩, by rw [ht]; exact hP9, va_K.moved hW.alike hK, hD9⟩, hS.F ht⟩) hS.2.2 dX11_readAll_70
        · skip
          refine lv_if_ne (tgt := 71) hx hb dX11_readAll_66 (by decide) (fun _ => ?_) (fun c608 => absurd c608 (by decide))
          refine lv_aload_n hx hb dX11_readAll_71 rfl (lv_at hl 1 rfl) ?_
          refine lv_dup hx hb dX11_readAll_72 rfl ?_
          refine va_get (D := D) (ci := 10) (v := .int x598) (C := RX11) (T := TX11) (N := 26) hx hb hts iG_X11 hown hK hP 1 rfl rfl 9 (by decide) (hts _ w18_5) (fun _ h9 => h9) rfl dX11_readAll_73 ?_
          refine lv_iconst (v := 1) hx hb dX11_readAll_76 (by decide) ?_
          refine lv_iadd hx hb dX11_readAll_77 ?_
          refine lv_topi (fun x609 ex609 => ?_)
          have tx609 : x609.toInt = x598.toInt + 1 := ti_add ex609 kc606_0 (rg_lit (n := 1) (by decide)) (by decide) rfl (by decide)
          have k610 : Rg x609 1 400 := rg_add ex609 kc606_0 (rg_lit (n := 1) (by decide)) (by decide)
          refine va_put (D := D) (ci := 10) (v := .int x609) (ty := .int) (C := RX11) (T := TX11) (N := 26) hx hb hts iG_X11 tyX11 tyX11_ok nmX11 hown hK hP hD hS 1 rfl rfl 9 (by decide) (hts _ w18_5) (fun _ h9 => h9) rfl (by decide +kernel) rfl rfl (Nat.le_of_ble_eq_true rfl) dX11_readAll_78 (fun H locs hP hD hS => ?_)
          have hP : va_P D vwCl [(aw, .inl (cI, 2179, .inl g588)), (h, oX11 0 aw ai ab ac hi re aP 0 x609 ta x599 x586 fa a5 x587 av an ak ne aW aC ag aT aN aF), (aP, .inl (cB, 400, .inl ft))] H := hP
          have hD : va_D A [(aw, .inl (cI, 2179, .inl g588)), (h, oX11 0 aw ai ab ac hi re aP 0 x609 ta x599 x586 fa a5 x587 av an ak ne aW aC ag aT aN aF), (aP, .inl (cB, 400, .inl ft))] := hD
          obtain ⟨x611, ex611⟩ : ∃ y : Int32, y = y576 + 1 := ⟨_, rfl⟩
          refine lv_iinc (v := x611) (lv' := [(2, .int x611), (0, .ref h), (1, .int 0)]) hx hb dX11_readAll_81 hl (k := 0) rfl (by rw [ex611]; rfl) (by decide) rfl (fun ls hl => ?_)
          have k612 : Rg x611 1 12 := rg_add ex611 kc595_0 (rg_lit (n := 1) (by decide)) (by decide)
          refine lv_goto (tgt := 28) hx hb dX11_readAll_84 (by decide) ?_
          exact ih582 (x611, g588, x609, x599, x586, x587) _ _ _ (by show (12 - (x611).toInt).toNat < (12 - (y576).toInt).toNat; exact mu_up ex611 kc595_0 k612 (by decide)) ⟨(wD_step hX28_0 kc595_1 kc595_0 (ti_add (Y := 1) ex611 kc595_0 (rg_lit (n := 1) (by decide)) (by decide) rfl (by decide))), (by have q0 := k5; have q2 := congrArg Int32.toInt k6; have q3 := neI c7; have q4 := neI (Ne.symm c7); have q7 := hX28_1; have q9 := kc595_2; have q10 := k602; have q11 := congrArg Int32.toInt k603; have q12 := neI c604; have q13 := neI (Ne.symm c604); have q14 := tx609; have q15 := k591; have q16 := k610; have q17 : (0 : Int32).toInt = 0 := (by decide); have q18 : (1 : Int32).toInt = 1 := (by decide); unfold Rg at *; omega), (rg_w k612 (by decide)), k592, k593, k594, (rg_w k610 (by decide)), k601, k591, hP.sub (ws' := [(aw, .inl (cI, 2179, .inl g588)), (h, oX11 0 aw ai ab ac hi re aP 0 x609 ta x599 x586 fa a5 x587 av an ak ne aW aC ag aT aN aF), (aP, .inl (cB, 400, .inl ft))]) [0, 1, 2] rfl, hD.sub (ws' := [(aw, .inl (cI, 2179, .inl g588)), (h, oX11 0 aw ai ab ac hi re aP 0 x609 ta x599 x586 fa a5 x587 av an ak ne aW aC ag aT aN aF), (aP, .inl (cB, 400, .inl ft))]) [0, 1, 2] (by decide) rfl, hS, lv_sub (l' := [(2, .int x611), (0, .ref h), (1, .int 0)]) hl [0, 1, 2] rfl⟩
      · skip
        refine lv_iload_n hx hb dX11_readAll_54 rfl (lv_at hl 0 rfl) ?_
        refine lv_iconst (v := 1) hx hb dX11_readAll_55 (by decide) ?_
        refine lv_iadd hx hb dX11_readAll_56 ?_
        refine lv_topi (fun x613 ex613 => ?_)
        have tx613 : x613.toInt = y576.toInt + 1 := ti_add ex613 kc595_0 (rg_lit (n := 1) (by decide)) (by decide) rfl (by decide)
        have k614 : Rg x613 1 12 := rg_add ex613 kc595_0 (rg_lit (n := 1) (by decide)) (by decide)
        have hP9 := hP.sub (ws' := [(h, oX11 0 aw ai ab ac hi re aP 0 x598 ta x599 x586 fa a5 x587 av an ak ne aW aC ag aT aN aF), (aw, .inl (cI, 2179, .inl g588)), (aP, .inl (cB, 400, .inl ft))]) [1, 0, 2] rfl
        have hD9 := hD.sub (ws' := [(h, oX11 0 aw ai ab ac hi re aP 0 x598 ta x599 x586 fa a5 x587 av an ak ne aW aC ag aT aN aF), (aw, .inl (cI, 2179, .inl g588)), (aP, .inl (cB, 400, .inl ft))]) [1, 0, 2] (by decide) rfl
        exact W.iret (v := x613) hx hb hr (fun t ht hW => ⟨⟨x613, (x598, x599, x586, x587, g588), rfl, ⟨k600, k601, k591, k592, k593, k594, (rg_w k614 (by decide)), (Or.inr (wD_step hX28_0 kc595_1 kc595_0 tx613))⟩, by rw [ht]; exact hP9, va_K.moved hW.alike hK, hD9⟩, hS.F ht⟩) hS.2.2 dX11_readAll_57
  · skip
    refine lv_iconst (v := 0) hx hb dX11_readAll_24 (by decide) ?_
    have hP9 := hP.sub (ws' := [(h, oX11 0 aw ai ab ac hi re aP 0 x1 ta x2 de fa a5 0 av an ak ne aW aC ag aT aN aF), (aw, .inl (cI, 2179, .inl fw)), (aP, .inl (cB, 400, .inl ft))]) [1, 0, 2] rfl
    have hD9 := hD.sub (ws' := [(h, oX11 0 aw ai ab ac hi re aP 0 x1 ta x2 de fa a5 0 av an ak ne aW aC ag aT aN aF), (aw, .inl (cI, 2179, .inl fw)), (aP, .inl (cB, 400, .inl ft))]) [1, 0, 2] (by decide) rfl
    exact W.iret (v := 0) hx hb hr (fun t ht hW => ⟨⟨0, (x1, x2, de, (0 : Int32), fw), rfl, ⟨k3, k4, (rg_w (rg_lit (n := 0) (by decide)) (by decide)), H_fw_B, H_fw_L, H_fw_W, (rg_w (rg_lit (n := 0) (by decide)) (by decide)), (Or.inr (wD_0 _ _))⟩, by rw [ht]; exact hP9, va_K.moved hW.alike hK, hD9⟩, hS.F ht⟩) hS.2.2 dX11_readAll_25

