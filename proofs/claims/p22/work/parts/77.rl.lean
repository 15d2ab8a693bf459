def kwX11_readLawLine : List Cond := .code yX11_readLawLine cX11_readLawLine 4 (some .boolean) :: kG
theorem hdX11_readLawLine : yX11_readLawLine.cls ≠ "java/lang/invoke/MethodHandle" ∧ yX11_readLawLine.cls ≠ "java/lang/invoke/VarHandle" ∧ (parseMethodDescriptor yX11_readLawLine.desc).map (fun d => d.parameters.length) = some 1 := by decide +kernel
theorem gX11_readLawLine_X11_isWord : GoodIn kG (wsV RX11 114 RX11 yX11_isWord kwX11_isWord) := gK w19_7 (gK w19_8 (gK w19_9 (gK w0_5 (gK w19_10 gGG))))
theorem gX11_readLawLine_X11_number : GoodIn kG (wsV RX11 118 RX11 yX11_number kwX11_number) := gK w19_21 (gK w19_22 (gK w19_23 (gK w0_5 (gK w20_0 gGG))))
theorem gX11_readLawLine_X11_passes : GoodIn kG (wsV RX11 216 RX11 yX11_passes kwX11_passes) := gK w21_18 (gK w21_19 (gK w21_20 (gK w0_5 (gK w21_21 gGG))))
theorem gX11_readLawLine_X11_readCond : GoodIn kG (wsV RX11 211 RX11 yX11_readCond kwX11_readCond) := gK w21_22 (gK w21_23 (gK w22_0 (gK w0_5 (gK w22_1 gGG))))
theorem dX11_readLawLine_0 : decode cX11_readLawLine 0 = .ok (.sipush 1343, 3) := by decide +kernel
theorem dX11_readLawLine_3 : decode cX11_readLawLine 3 = .ok (.iconst 3, 1) := by decide +kernel
theorem dX11_readLawLine_4 : decode cX11_readLawLine 4 = .ok (.iload_n 1, 1) := by decide +kernel
theorem dX11_readLawLine_5 : decode cX11_readLawLine 5 = .ok (.imul, 1) := by decide +kernel
theorem dX11_readLawLine_6 : decode cX11_readLawLine 6 = .ok (.iadd, 1) := by decide +kernel
theorem dX11_readLawLine_7 : decode cX11_readLawLine 7 = .ok (.istore_n 2, 1) := by decide +kernel
theorem dX11_readLawLine_8 : decode cX11_readLawLine 8 = .ok (.aload_n 0, 1) := by decide +kernel
theorem dX11_readLawLine_9 : decode cX11_readLawLine 9 = .ok (.ldc 235, 2) := by decide +kernel
theorem dX11_readLawLine_11 : decode cX11_readLawLine 11 = .ok (.invokevirtual 114, 3) := by decide +kernel
theorem dX11_readLawLine_14 : decode cX11_readLawLine 14 = .ok (.istore_n 3, 1) := by decide +kernel
theorem dX11_readLawLine_15 : decode cX11_readLawLine 15 = .ok (.iload_n 3, 1) := by decide +kernel
theorem dX11_readLawLine_16 : decode cX11_readLawLine 16 = .ok (.ifCond .ne 14, 3) := by decide +kernel
theorem dX11_readLawLine_19 : decode cX11_readLawLine 19 = .ok (.aload_n 0, 1) := by decide +kernel
theorem dX11_readLawLine_20 : decode cX11_readLawLine 20 = .ok (.ldc 237, 2) := by decide +kernel
theorem dX11_readLawLine_22 : decode cX11_readLawLine 22 = .ok (.invokevirtual 114, 3) := by decide +kernel
theorem dX11_readLawLine_25 : decode cX11_readLawLine 25 = .ok (.ifCond .ne 5, 3) := by decide +kernel
theorem dX11_readLawLine_28 : decode cX11_readLawLine 28 = .ok (.iconst 0, 1) := by decide +kernel
theorem dX11_readLawLine_29 : decode cX11_readLawLine 29 = .ok (.ireturn, 1) := by decide +kernel
theorem dX11_readLawLine_30 : decode cX11_readLawLine 30 = .ok (.aload_n 0, 1) := by decide +kernel
theorem dX11_readLawLine_31 : decode cX11_readLawLine 31 = .ok (.getfield 13, 3) := by decide +kernel
theorem dX11_readLawLine_34 : decode cX11_readLawLine 34 = .ok (.iload_n 2, 1) := by decide +kernel
theorem dX11_readLawLine_35 : decode cX11_readLawLine 35 = .ok (.iload_n 3, 1) := by decide +kernel
theorem dX11_readLawLine_36 : decode cX11_readLawLine 36 = .ok (.ifCond .eq 14, 3) := by decide +kernel
theorem dX11_readLawLine_39 : decode cX11_readLawLine 39 = .ok (.aload_n 0, 1) := by decide +kernel
theorem dX11_readLawLine_40 : decode cX11_readLawLine 40 = .ok (.iconst 0, 1) := by decide +kernel
theorem dX11_readLawLine_41 : decode cX11_readLawLine 41 = .ok (.sipush 999, 3) := by decide +kernel
theorem dX11_readLawLine_44 : decode cX11_readLawLine 44 = .ok (.invokevirtual 118, 3) := by decide +kernel
theorem dX11_readLawLine_47 : decode cX11_readLawLine 47 = .ok (.goto 4, 3) := by decide +kernel
theorem dX11_readLawLine_50 : decode cX11_readLawLine 50 = .ok (.iconst (-1), 1) := by decide +kernel
theorem dX11_readLawLine_51 : decode cX11_readLawLine 51 = .ok (.iastore, 1) := by decide +kernel
theorem dX11_readLawLine_52 : decode cX11_readLawLine 52 = .ok (.iload_n 3, 1) := by decide +kernel
theorem dX11_readLawLine_53 : decode cX11_readLawLine 53 = .ok (.ifCond .eq 14, 3) := by decide +kernel
theorem dX11_readLawLine_56 : decode cX11_readLawLine 56 = .ok (.aload_n 0, 1) := by decide +kernel
theorem dX11_readLawLine_57 : decode cX11_readLawLine 57 = .ok (.getfield 13, 3) := by decide +kernel
theorem dX11_readLawLine_60 : decode cX11_readLawLine 60 = .ok (.iload_n 2, 1) := by decide +kernel
theorem dX11_readLawLine_61 : decode cX11_readLawLine 61 = .ok (.iaload, 1) := by decide +kernel
theorem dX11_readLawLine_62 : decode cX11_readLawLine 62 = .ok (.ifCond .ge 5, 3) := by decide +kernel
theorem dX11_readLawLine_65 : decode cX11_readLawLine 65 = .ok (.iconst 0, 1) := by decide +kernel
theorem dX11_readLawLine_66 : decode cX11_readLawLine 66 = .ok (.ireturn, 1) := by decide +kernel
theorem dX11_readLawLine_67 : decode cX11_readLawLine 67 = .ok (.aload_n 0, 1) := by decide +kernel
theorem dX11_readLawLine_68 : decode cX11_readLawLine 68 = .ok (.getfield 13, 3) := by decide +kernel
theorem dX11_readLawLine_71 : decode cX11_readLawLine 71 = .ok (.iload_n 2, 1) := by decide +kernel
theorem dX11_readLawLine_72 : decode cX11_readLawLine 72 = .ok (.iconst 1, 1) := by decide +kernel
theorem dX11_readLawLine_73 : decode cX11_readLawLine 73 = .ok (.iadd, 1) := by decide +kernel
theorem dX11_readLawLine_74 : decode cX11_readLawLine 74 = .ok (.aload_n 0, 1) := by decide +kernel
theorem dX11_readLawLine_75 : decode cX11_readLawLine 75 = .ok (.getfield 181, 3) := by decide +kernel
theorem dX11_readLawLine_78 : decode cX11_readLawLine 78 = .ok (.iastore, 1) := by decide +kernel
theorem dX11_readLawLine_79 : decode cX11_readLawLine 79 = .ok (.aload_n 0, 1) := by decide +kernel
theorem dX11_readLawLine_80 : decode cX11_readLawLine 80 = .ok (.iconst 0, 1) := by decide +kernel
theorem dX11_readLawLine_81 : decode cX11_readLawLine 81 = .ok (.putfield 208, 3) := by decide +kernel
theorem dX11_readLawLine_84 : decode cX11_readLawLine 84 = .ok (.aload_n 0, 1) := by decide +kernel
theorem dX11_readLawLine_85 : decode cX11_readLawLine 85 = .ok (.ldc 239, 2) := by decide +kernel
theorem dX11_readLawLine_87 : decode cX11_readLawLine 87 = .ok (.invokevirtual 216, 3) := by decide +kernel
theorem dX11_readLawLine_90 : decode cX11_readLawLine 90 = .ok (.ifCond .eq 12, 3) := by decide +kernel
theorem dX11_readLawLine_93 : decode cX11_readLawLine 93 = .ok (.aload_n 0, 1) := by decide +kernel
theorem dX11_readLawLine_94 : decode cX11_readLawLine 94 = .ok (.invokevirtual 211, 3) := by decide +kernel
theorem dX11_readLawLine_97 : decode cX11_readLawLine 97 = .ok (.ifCond .ne 5, 3) := by decide +kernel
theorem dX11_readLawLine_100 : decode cX11_readLawLine 100 = .ok (.iconst 0, 1) := by decide +kernel
theorem dX11_readLawLine_101 : decode cX11_readLawLine 101 = .ok (.ireturn, 1) := by decide +kernel
theorem dX11_readLawLine_102 : decode cX11_readLawLine 102 = .ok (.aload_n 0, 1) := by decide +kernel
theorem dX11_readLawLine_103 : decode cX11_readLawLine 103 = .ok (.getfield 13, 3) := by decide +kernel
theorem dX11_readLawLine_106 : decode cX11_readLawLine 106 = .ok (.iload_n 2, 1) := by decide +kernel
theorem dX11_readLawLine_107 : decode cX11_readLawLine 107 = .ok (.iconst 2, 1) := by decide +kernel
theorem dX11_readLawLine_108 : decode cX11_readLawLine 108 = .ok (.iadd, 1) := by decide +kernel
theorem dX11_readLawLine_109 : decode cX11_readLawLine 109 = .ok (.aload_n 0, 1) := by decide +kernel
theorem dX11_readLawLine_110 : decode cX11_readLawLine 110 = .ok (.getfield 181, 3) := by decide +kernel
theorem dX11_readLawLine_113 : decode cX11_readLawLine 113 = .ok (.iastore, 1) := by decide +kernel
theorem dX11_readLawLine_114 : decode cX11_readLawLine 114 = .ok (.iconst 1, 1) := by decide +kernel
theorem dX11_readLawLine_115 : decode cX11_readLawLine 115 = .ok (.ireturn, 1) := by decide +kernel
set_option maxHeartbeats 4000000 in
set_option maxRecDepth 100000 in
/-- reference: readLawLine -/
theorem r_readLawLine (l : Launch) (D : va_G) (cI cJ cB cC : ClassId) (h : Nat) (th : Int32) (aw : Nat) (ai : Nat) (ab : Nat) (ac : Nat) (hi : Int32) (re : Int32) (aP : Nat) (ta : Int32) (po : Int32) (en : Int32) (be : Int32) (de : Int32) (fa : Int32) (a5 : Nat) (sp : Int32) (av : Nat) (an : Nat) (ak : Nat) (ne : Int32) (aW : Nat) (aC : Nat) (ag : Nat) (aT : Nat) (aN : Nat) (aF : Nat) (fw : Nat → Int32) (ft : Nat → Int32) (n : Int32) (sz : Nat) (H_po : Rg po 0 400) (H_en : Rg en 0 400) (H_be : Rg be 0 400) (H_sp : Rg sp 0 400) (H_n : Rg n 0 11) (H_fw_W : wW fw) (H_fw_B : wB fw) (H_fw_L : wL fw) (H_SB : (sp : Int32).toInt ≤ (be : Int32).toInt) : Met l yX11_readLawLine kwX11_readLawLine ({ frames := 28, cells := 0, slots := 0, locals := 576 } : Room) (kPre D (kT cI cJ cB cC) sz [(h, oX11 th aw ai ab ac hi re aP ta po en be de fa a5 sp av an ak ne aW aC ag aT aN aF), (aw, kcI cI 2179 fw), (aP, .inl (cB, 400, .inl ft))] [.ref h, .int n]) (va_Qi (fun (r : Int32) (uu : Int32 × Int32 × Int32 × Int32 × (Nat → Int32)) => match uu with | (n0_, n1_, n2_, n3_, f4_) => Rg n0_ 0 400 ∧ Rg n1_ 0 400 ∧ Rg n3_ 0 400 ∧ wB f4_ ∧ wL f4_ ∧ wW f4_ ∧ F_r_readLawLine (po : Int32).toInt (en : Int32).toInt (be : Int32).toInt (de : Int32).toInt (sp : Int32).toInt (gT fw) (gT ft) (n : Int32).toInt = ((r : Int32).toInt, (n0_ : Int32).toInt, (n1_ : Int32).toInt, (n2_ : Int32).toInt, (n3_ : Int32).toInt, (gT f4_)) ∧ ((r = 0) ∨ (r = 1 ∧ rLn fw f4_ n sp n3_ ∧ (n3_ : Int32).toInt ≤ (n0_ : Int32).toInt))) (fun (uu : Int32 × Int32 × Int32 × Int32 × (Nat → Int32)) (t : State) => match uu with | (n0_, n1_, n2_, n3_, f4_) => kB D (kT cI cJ cB cC) (va_A [(h, oX11 th aw ai ab ac hi re aP ta po en be de fa a5 sp av an ak ne aW aC ag aT aN aF), (aw, kcI cI 2179 fw), (aP, .inl (cB, 400, .inl ft))] sz) [(h, oX11 th aw ai ab ac hi re aP ta n0_ en n1_ n2_ fa a5 n3_ av an ak ne aW aC ag aT aN aF), (aw, kcI cI 2179 f4_), (aP, .inl (cB, 400, .inl ft))] t) (va_A [(h, oX11 th aw ai ab ac hi re aP ta po en be de fa a5 sp av an ak ne aW aC ag aT aN aF), (aw, kcI cI 2179 fw), (aP, .inl (cB, 400, .inl ft))] sz)) 0 0 (va_A [(h, oX11 th aw ai ab ac hi re aP ta po en be de fa a5 sp av an ak ne aW aC ag aT aN aF), (aw, kcI cI 2179 fw), (aP, .inl (cB, 400, .inl ft))] sz) := by
  refine Met.ofW (cc := cX11_readLawLine) (maxL := 4) (ret := (some .boolean)) (by decide) rfl ?_
  intro p e s m args below meth c s₁ B hml hv
  obtain ⟨rfl, hsz, hN, hE, hP, hK, hD0⟩ := hv
  have hx := B.exec
  have hb := B.bytes
  have hr := B.returns
  have hts := fun (w : Cond) (h : w ∈ kG) => atoms_spec (ws := kwX11_readLawLine) B.pre w (List.mem_cons_of_mem _ h)
  have hown : s.vm.findClass RX11 = some m.cls := findClass_of_methodNamed B.named
  subst hsz
  have hD := hD0.self (sz := s.heap.size)
  generalize hAe : va_A [(h, oX11 th aw ai ab ac hi re aP ta po en be de fa a5 sp av an ak ne aW aC ag aT aN aF), (aw, kcI cI 2179 fw), (aP, .inl (cB, 400, .inl ft))] s.heap.size = A at hD hE ⊢
  have hA : ∀ q : Nat, s.heap.size ≤ q → A q := fun q h => by rw [← hAe]; exact Or.inr h
  have hl := lv_entry ([.ref h, .int n]) (n := 4) (Nat.le_of_ble_eq_true rfl)
  rw [lg_entry_eq]
  generalize (lg_sl ([.ref h, .int n]) ++ List.replicate (4 - (lg_sl ([.ref h, .int n])).length) Slot.unset).toArray = ls at hl ⊢
  have hl : lv_has ls 4 [(0, .ref h), (1, .int n)] := hl
  obtain ⟨H, hH0⟩ : ∃ H, H = s.heap := ⟨_, rfl⟩
  have hS : va_S A s.heap H [] := by rw [hH0]; exact va_S.rf
  have hP : va_P D vwCl [(h, oX11 th aw ai ab ac hi re aP ta po en be de fa a5 sp av an ak ne aW aC ag aT aN aF), (aw, kcI cI 2179 fw), (aP, .inl (cB, 400, .inl ft))] H := by rw [hH0]; exact hP
  refine kHeap hH0 ?_
  clear hH0
  refine lv_sipush (v := 1343) hx hb dX11_readLawLine_0 (by decide) ?_
  refine lv_iconst (v := 3) hx hb dX11_readLawLine_3 (by decide) ?_
  refine lv_iload_n hx hb dX11_readLawLine_4 rfl (lv_at hl 1 rfl) ?_
  refine lv_imul hx hb dX11_readLawLine_5 ?_
  refine lv_topi (fun x1 ex1 => ?_)
  have tx1 : x1.toInt = 3 * n.toInt := ti_mul ex1 (rg_lit (n := 3) (by decide)) H_n (by decide) (by decide) rfl
  have k2 : Rg x1 0 33 := rg_mul ex1 (rg_lit (n := 3) (by decide)) H_n (by decide)
  refine lv_iadd hx hb dX11_readLawLine_6 ?_
  refine lv_topi (fun x3 ex3 => ?_)
  have tx3 : x3.toInt = 1343 + x1.toInt := ti_add ex3 (rg_lit (n := 1343) (by decide)) k2 (by decide) (by decide) rfl
  have k4 : Rg x3 1343 1376 := rg_add ex3 (rg_lit (n := 1343) (by decide)) k2 (by decide)
  refine lv_istore_n (lv' := [(2, .int x3), (0, .ref h), (1, .int n)]) hx hb dX11_readLawLine_7 rfl hl (by decide) rfl (fun ls hl => ?_)
  refine lv_aload_n hx hb dX11_readLawLine_8 rfl (lv_at hl 1 rfl) ?_
  obtain ⟨q5, q6, hR7, hT8⟩ := kTx_16 hE.2.2
  refine va_ldcS hx hb hown hR7 dX11_readLawLine_9 ?_
  refine kpurei (wc := [(h, oX11 th aw ai ab ac hi re aP ta po en be de fa a5 sp av an ak ne aW aC ag aT aN aF), (aP, .inl (cB, 400, .inl ft))]) hP hD hS hA [0, 2] rfl (by decide) (fun hPc hDc hFc => va_runV (As := [.ref q5]) (rest := []) ⟨hx, hb, hml, hown, hts⟩ (r_isWord l D cI cJ cB cC h th aw ai ab ac hi re aP ta po en be de fa a5 sp av an ak ne aW aC ag aT aN aF ft q5 kSb16 q6 H.size H_po H_en H_be kSb16_le) (cwV 1 hts gX11_readLawLine_X11_isWord rfl rfl rfl ⟨rfl, hdX11_isWord⟩ ⟨Nat.le_of_ble_eq_true rfl, Nat.le_of_ble_eq_true rfl⟩) ⟨kBlindT, va_recv hK hPc (ci := 10) (q0 := 0) rfl rfl, fun U hU hW => ⟨rfl, by rw [hU], hN.warm hW, hE.pass hS hFc hW hU, hT8.pass hS hFc hW hU, by rw [hU]; exact hPc, va_K.moved hW.alike hK, hDc⟩⟩ rfl rfl hl.1 rfl (lv_room (Nat.le_of_ble_eq_true rfl)) dX11_readLawLine_11 ⟨Nat.le_of_ble_eq_true rfl, Nat.le_of_ble_eq_true rfl⟩) (fun r9 u H locs hw hP hS => ?_)
  obtain ⟨k10, k11, k12⟩ := hw
  refine lv_istore_n (lv' := [(3, .int r9), (2, .int x3), (0, .ref h), (1, .int n)]) hx hb dX11_readLawLine_14 rfl hl (by decide) rfl (fun ls hl => ?_)
  refine lv_iload_n hx hb dX11_readLawLine_15 rfl (lv_at hl 0 rfl) ?_
  refine lv_if_ne (tgt := 30) hx hb dX11_readLawLine_16 (by decide) (fun c27 => ?_) (fun c27 => ?_)
  · skip
    have k28 : Rg r9 1 1 := rg_n1 (neI c27) k10 (rg_lit (n := 0) (by decide)) (by decide)
    refine lv_aload_n hx hb dX11_readLawLine_30 rfl (lv_at hl 2 rfl) ?_
    refine va_get (D := D) (ci := 10) (v := .ref aw) (C := RX11) (T := TX11) (N := 26) hx hb hts iG_X11 hown hK hP 0 rfl rfl 1 (by decide) (hts _ w5_3) (fun _ h9 => h9) rfl dX11_readLawLine_31 ?_
    refine lv_iload_n hx hb dX11_readLawLine_34 rfl (lv_at hl 1 rfl) ?_
    refine lv_iload_n hx hb dX11_readLawLine_35 rfl (lv_at hl 0 rfl) ?_
    refine lv_if_eq (tgt := 50) hx hb dX11_readLawLine_36 (by decide) (fun c39 => absurd c39 (rg_neq k28 (rg_lit (n := 0) (by decide)) (by decide))) (fun _ => ?_)
    refine lv_aload_n hx hb dX11_readLawLine_39 rfl (lv_at hl 2 rfl) ?_
    refine lv_iconst (v := 0) hx hb dX11_readLawLine_40 (by decide) ?_
    refine lv_sipush (v := 999) hx hb dX11_readLawLine_41 (by decide) ?_
    refine kcalli (wc := [(h, oX11 th aw ai ab ac hi re aP ta po en be de fa a5 sp av an ak ne aW aC ag aT aN aF), (aP, .inl (cB, 400, .inl ft))]) (wr := [(aw, kcI cI 2179 fw)]) hP hD hS hA [0, 2] [1] rfl rfl (by decide) (by decide) (by decide) (fun hPc hDc hFc => va_runV (As := [.int 0, .int 999]) (rest := [.int x3, .ref aw]) ⟨hx, hb, hml, hown, hts⟩ (r_number_999 l D cI cJ cB cC h th aw ai ab ac hi re aP ta po en be de fa a5 sp av an ak ne aW aC ag aT aN aF ft H.size H_po H_en) (cwV 2 hts gX11_readLawLine_X11_number rfl rfl rfl ⟨rfl, hdX11_number⟩ ⟨Nat.le_of_ble_eq_true rfl, Nat.le_of_ble_eq_true rfl⟩) ⟨kBlind, va_recv hK hPc (ci := 10) (q0 := 0) rfl rfl, fun U hU hW => ⟨rfl, by rw [hU], hN.warm hW, hE.pass hS hFc hW hU, by rw [hU]; exact hPc, va_K.moved hW.alike hK, hDc⟩⟩ rfl rfl hl.1 rfl (lv_room (Nat.le_of_ble_eq_true rfl)) dX11_readLawLine_44 ⟨Nat.le_of_ble_eq_true rfl, Nat.le_of_ble_eq_true rfl⟩) (fun r40 u H locs hw hP hD hS => ?_)
    obtain ⟨x41, x42⟩ := u
    have hP : va_P D vwCl [(aw, kcI cI 2179 fw), (h, oX11 th aw ai ab ac hi re aP ta x41 en x42 de fa a5 sp av an ak ne aW aC ag aT aN aF), (aP, .inl (cB, 400, .inl ft))] H := hP
    have hD : va_D A [(aw, kcI cI 2179 fw), (h, oX11 th aw ai ab ac hi re aP ta x41 en x42 de fa a5 sp av an ak ne aW aC ag aT aN aF), (aP, .inl (cB, 400, .inl ft))] := hD
    obtain ⟨k43, k44, k45, k46, k47, k48⟩ := hw
    refine lv_goto (tgt := 51) hx hb dX11_readLawLine_47 (by decide) ?_
    refine va_iast hx hb hK hP hD hS 0 0 rfl rfl (rg_in k4 (by decide)) dX11_readLawLine_51 (fun H locs hP hD hS => ?_)
    have hP : va_P D vwCl [(aw, kcI cI 2179 (upd fw x3.toNatClampNeg r40)), (h, oX11 th aw ai ab ac hi re aP ta x41 en x42 de fa a5 sp av an ak ne aW aC ag aT aN aF), (aP, .inl (cB, 400, .inl ft))] H := hP
    have hD : va_D A [(aw, kcI cI 2179 (upd fw x3.toNatClampNeg r40)), (h, oX11 th aw ai ab ac hi re aP ta x41 en x42 de fa a5 sp av an ak ne aW aC ag aT aN aF), (aP, .inl (cB, 400, .inl ft))] := hD
    have k50 : wW (upd fw x3.toNatClampNeg r40) := wW_hi H_fw_W k4 (by decide)
    have k51 : wB (upd fw x3.toNatClampNeg r40) := wB_hi H_fw_B H_fw_W k4 (by decide)
    have k52 : wL (upd fw x3.toNatClampNeg r40) := wL_out H_fw_L k4 (by decide)
    generalize hg49 : (upd fw x3.toNatClampNeg r40) = g49 at hP hD k50 k51 k52
    refine lv_iload_n hx hb dX11_readLawLine_52 rfl (lv_at hl 0 rfl) ?_
    refine lv_if_eq (tgt := 67) hx hb dX11_readLawLine_53 (by decide) (fun c58 => absurd c58 (rg_neq k28 (rg_lit (n := 0) (by decide)) (by decide))) (fun _ => ?_)
    refine lv_aload_n hx hb dX11_readLawLine_56 rfl (lv_at hl 2 rfl) ?_
    refine va_get (D := D) (ci := 10) (v := .ref aw) (C := RX11) (T := TX11) (N := 26) hx hb hts iG_X11 hown hK hP 1 rfl rfl 1 (by decide) (hts _ w5_3) (fun _ h9 => h9) rfl dX11_readLawLine_57 ?_
    refine lv_iload_n hx hb dX11_readLawLine_60 rfl (lv_at hl 1 rfl) ?_
    refine va_iald hx hb hK hP 0 0 rfl rfl (rg_in k4 (by decide)) dX11_readLawLine_61 ?_
    refine lv_topi (fun x59 ex59 => ?_)
    refine lv_if_ge (tgt := 67) hx hb dX11_readLawLine_62 (by decide) (fun c60 => ?_) (fun c60 => ?_)
    · skip
      have k61 : Rg x59 0 2147483647 := rg_e2 (leI c60) (rg_lit (n := 0) (by decide)) (rg_any x59) (by decide)
      refine lv_aload_n hx hb dX11_readLawLine_67 rfl (lv_at hl 2 rfl) ?_
      refine va_get (D := D) (ci := 10) (v := .ref aw) (C := RX11) (T := TX11) (N := 26) hx hb hts iG_X11 hown hK hP 1 rfl rfl 1 (by decide) (hts _ w5_3) (fun _ h9 => h9) rfl dX11_readLawLine_68 ?_
      refine lv_iload_n hx hb dX11_readLawLine_71 rfl (lv_at hl 1 rfl) ?_
      refine lv_iconst (v := 1) hx hb dX11_readLawLine_72 (by decide) ?_
      refine lv_iadd hx hb dX11_readLawLine_73 ?_
      refine lv_topi (fun x62 ex62 => ?_)
      have tx62 : x62.toInt = x3.toInt + 1 := ti_add ex62 k4 (rg_lit (n := 1) (by decide)) (by decide) rfl (by decide)
      have k63 : Rg x62 1344 1377 := rg_add ex62 k4 (rg_lit (n := 1) (by decide)) (by decide)
      refine lv_aload_n hx hb dX11_readLawLine_74 rfl (lv_at hl 2 rfl) ?_
      refine va_get (D := D) (ci := 10) (v := .int sp) (C := RX11) (T := TX11) (N := 26) hx hb hts iG_X11 hown hK hP 1 rfl rfl 15 (by decide) (hts _ w18_4) (fun _ h9 => h9) rfl dX11_readLawLine_75 ?_
      refine va_iast hx hb hK hP hD hS 0 0 rfl rfl (rg_in k63 (by decide)) dX11_readLawLine_78 (fun H locs hP hD hS => ?_)
      have hP : va_P D vwCl [(aw, kcI cI 2179 (upd g49 x62.toNatClampNeg sp)), (h, oX11 th aw ai ab ac hi re aP ta x41 en x42 de fa a5 sp av an ak ne aW aC ag aT aN aF), (aP, .inl (cB, 400, .inl ft))] H := hP
      have hD : va_D A [(aw, kcI cI 2179 (upd g49 x62.toNatClampNeg sp)), (h, oX11 th aw ai ab ac hi re aP ta x41 en x42 de fa a5 sp av an ak ne aW aC ag aT aN aF), (aP, .inl (cB, 400, .inl ft))] := hD
      have k65 : wW (upd g49 x62.toNatClampNeg sp) := wW_hi k50 k63 (by decide)
      have k66 : wB (upd g49 x62.toNatClampNeg sp) := wB_hi k51 k50 k63 (by decide)
      have k67 : wL (upd g49 x62.toNatClampNeg sp) := wL_out k52 k63 (by decide)
      generalize hg64 : (upd g49 x62.toNatClampNeg sp) = g64 at hP hD k65 k66 k67
      refine lv_aload_n hx hb dX11_readLawLine_79 rfl (lv_at hl 2 rfl) ?_
      refine lv_iconst (v := 0) hx hb dX11_readLawLine_80 (by decide) ?_
      refine va_put (D := D) (ci := 10) (v := .int 0) (ty := .int) (C := RX11) (T := TX11) (N := 26) hx hb hts iG_X11 tyX11 tyX11_ok nmX11 hown hK hP hD hS 1 rfl rfl 12 (by decide) (hts _ w21_17) (fun _ h9 => h9) rfl (by decide +kernel) rfl rfl (Nat.le_of_ble_eq_true rfl) dX11_readLawLine_81 (fun H locs hP hD hS => ?_)
      have hP : va_P D vwCl [(aw, kcI cI 2179 g64), (h, oX11 th aw ai ab ac hi re aP ta x41 en x42 0 fa a5 sp av an ak ne aW aC ag aT aN aF), (aP, .inl (cB, 400, .inl ft))] H := hP
      have hD : va_D A [(aw, kcI cI 2179 g64), (h, oX11 th aw ai ab ac hi re aP ta x41 en x42 0 fa a5 sp av an ak ne aW aC ag aT aN aF), (aP, .inl (cB, 400, .inl ft))] := hD
      refine lv_aload_n hx hb dX11_readLawLine_84 rfl (lv_at hl 2 rfl) ?_
      obtain ⟨q68, q69, hR70, hT71⟩ := kTx_18 hE.2.2
      refine va_ldcS hx hb hown hR70 dX11_readLawLine_85 ?_
      refine kcalli (wc := [(h, oX11 th aw ai ab ac hi re aP ta x41 en x42 0 fa a5 sp av an ak ne aW aC ag aT aN aF), (aP, .inl (cB, 400, .inl ft))]) (wr := [(aw, kcI cI 2179 g64)]) hP hD hS hA [1, 2] [0] rfl rfl (by decide) (by decide) (by decide) (fun hPc hDc hFc => va_runV (As := [.ref q68]) (rest := []) ⟨hx, hb, hml, hown, hts⟩ (r_passes l D cI cJ cB cC h th aw ai ab ac hi re aP ta x41 en x42 0 fa a5 sp av an ak ne aW aC ag aT aN aF ft q68 kSb18 q69 H.size k43 H_en kSb18_le) (cwV 1 hts gX11_readLawLine_X11_passes rfl rfl rfl ⟨rfl, hdX11_passes⟩ ⟨Nat.le_of_ble_eq_true rfl, Nat.le_of_ble_eq_true rfl⟩) ⟨kBlindT, va_recv hK hPc (ci := 10) (q0 := 0) rfl rfl, fun U hU hW => ⟨rfl, by rw [hU], hN.warm hW, hE.pass hS hFc hW hU, hT71.pass hS hFc hW hU, by rw [hU]; exact hPc, va_K.moved hW.alike hK, hDc⟩⟩ rfl rfl hl.1 rfl (lv_room (Nat.le_of_ble_eq_true rfl)) dX11_readLawLine_87 ⟨Nat.le_of_ble_eq_true rfl, Nat.le_of_ble_eq_true rfl⟩) (fun r72 u H locs hw hP hD hS => ?_)
      obtain ⟨x73, x74⟩ := u
      have hP : va_P D vwCl [(aw, kcI cI 2179 g64), (h, oX11 th aw ai ab ac hi re aP ta x73 en x74 0 fa a5 sp av an ak ne aW aC ag aT aN aF), (aP, .inl (cB, 400, .inl ft))] H := hP
      have hD : va_D A [(aw, kcI cI 2179 g64), (h, oX11 th aw ai ab ac hi re aP ta x73 en x74 0 fa a5 sp av an ak ne aW aC ag aT aN aF), (aP, .inl (cB, 400, .inl ft))] := hD
      obtain ⟨k75, k76, k77, hw⟩ := hw
      rcases hw with ⟨rfl, kc78_0⟩ | ⟨rfl, kc78_0⟩
      · skip
        refine lv_if_eq (tgt := 102) hx hb dX11_readLawLine_90 (by decide) (fun _ => ?_) (fun c80 => absurd (by decide) c80)
        refine lv_aload_n hx hb dX11_readLawLine_102 rfl (lv_at hl 2 rfl) ?_
        refine va_get (D := D) (ci := 10) (v := .ref aw) (C := RX11) (T := TX11) (N := 26) hx hb hts iG_X11 hown hK hP 1 rfl rfl 1 (by decide) (hts _ w5_3) (fun _ h9 => h9) rfl dX11_readLawLine_103 ?_
        refine lv_iload_n hx hb dX11_readLawLine_106 rfl (lv_at hl 1 rfl) ?_
        refine lv_iconst (v := 2) hx hb dX11_readLawLine_107 (by decide) ?_
        refine lv_iadd hx hb dX11_readLawLine_108 ?_
        refine lv_topi (fun x81 ex81 => ?_)
        have tx81 : x81.toInt = x3.toInt + 2 := ti_add ex81 k4 (rg_lit (n := 2) (by decide)) (by decide) rfl (by decide)
        have k82 : Rg x81 1345 1378 := rg_add ex81 k4 (rg_lit (n := 2) (by decide)) (by decide)
        refine lv_aload_n hx hb dX11_readLawLine_109 rfl (lv_at hl 2 rfl) ?_
        refine va_get (D := D) (ci := 10) (v := .int sp) (C := RX11) (T := TX11) (N := 26) hx hb hts iG_X11 hown hK hP 1 rfl rfl 15 (by decide) (hts _ w18_4) (fun _ h9 => h9) rfl dX11_readLawLine_110 ?_
        refine va_iast hx hb hK hP hD hS 0 0 rfl rfl (rg_in k82 (by decide)) dX11_readLawLine_113 (fun H locs hP hD hS => ?_)
        have hP : va_P D vwCl [(aw, kcI cI 2179 (upd g64 x81.toNatClampNeg sp)), (h, oX11 th aw ai ab ac hi re aP ta x73 en x74 0 fa a5 sp av an ak ne aW aC ag aT aN aF), (aP, .inl (cB, 400, .inl ft))] H := hP
        have hD : va_D A [(aw, kcI cI 2179 (upd g64 x81.toNatClampNeg sp)), (h, oX11 th aw ai ab ac hi re aP ta x73 en x74 0 fa a5 sp av an ak ne aW aC ag aT aN aF), (aP, .inl (cB, 400, .inl ft))] := hD
        have k84 : wW (upd g64 x81.toNatClampNeg sp) := wW_hi k65 k82 (by decide)
        have k85 : wB (upd g64 x81.toNatClampNeg sp) := wB_hi k66 k65 k82 (by decide)
        have k86 : wL (upd g64 x81.toNatClampNeg sp) := wL_out k67 k82 (by decide)
        generalize hg83 : (upd g64 x81.toNatClampNeg sp) = g83 at hP hD k84 k85 k86
        refine lv_iconst (v := 1) hx hb dX11_readLawLine_114 (by decide) ?_
        have hP9 := hP.sub (ws' := [(h, oX11 th aw ai ab ac hi re aP ta x73 en x74 0 fa a5 sp av an ak ne aW aC ag aT aN aF), (aw, kcI cI 2179 g83), (aP, .inl (cB, 400, .inl ft))]) [1, 0, 2] rfl
        have hD9 := hD.sub (ws' := [(h, oX11 th aw ai ab ac hi re aP ta x73 en x74 0 fa a5 sp av an ak ne aW aC ag aT aN aF), (aw, kcI cI 2179 g83), (aP, .inl (cB, 400, .inl ft))]) [1, 0, 2] (by decide) rfl
        exact W.zret (v := 1) hx hb hr (by decide) (fun t ht hW => ⟨⟨1, (x73, x74, (0 : Int32), sp, g83), rfl, ⟨k75, k76, H_sp, k85, k86, k84, (kLet_eq (ti_mul ex1 (rg_lit (n := 3) (by decide)) H_n (by decide) rfl rfl) (kLet_eq (ti_add ex3 (rg_lit (n := 1343) (by decide)) k2 (by decide) rfl rfl) (kLet_eq (k12).symm (kif_f (neI c27) (kC_eq k48 (kC_eq rfl (kLet_eq (ke_st hg49) (kLet_eq (ke_ld ex59) (kif_t (leI c60) (kLet_eq (ti_add ex62 k4 (rg_lit (n := 1) (by decide)) (by decide) rfl rfl) (kLet_eq (ke_st hg64) (kC_eq k77 (kC_eq rfl (kif_t rfl (kLet_eq (ti_add ex81 k4 (rg_lit (n := 2) (by decide)) (by decide) rfl rfl) (kLet_eq (ke_st hg83) rfl)))))))))))))))), (Or.inr ⟨rfl, (rLn_no hg49 hg64 hg83 (cl_of (k := 1343 + 3 * cN n) k4 (by decide) (by simp only [cN]; have q0 := H_SB; have q1 := tx1; have q2 := tx3; have q4 := k11; have q7 := neI c27; have q8 := neI (Ne.symm c27); have q9 := k46; have q11 := k47; have q14 := (leI c60); have q15 := tx62; have q18 := kc78_0; have q19 := tx81; have q21 := H_n; have q22 : (0 : Int32).toInt = 0 := (by decide); have q23 : (1 : Int32).toInt = 1 := (by decide); have q24 : ((nI kSb16.length) : Int32).toInt = 4 := (by decide); unfold Rg at *; omega)) (cl_of (k := 1344 + 3 * cN n) k63 (by decide) (by simp only [cN]; have q0 := H_SB; have q1 := tx1; have q2 := tx3; have q4 := k11; have q7 := neI c27; have q8 := neI (Ne.symm c27); have q9 := k46; have q11 := k47; have q14 := (leI c60); have q15 := tx62; have q18 := kc78_0; have q19 := tx81; have q21 := H_n; have q22 : (0 : Int32).toInt = 0 := (by decide); have q23 : (1 : Int32).toInt = 1 := (by decide); have q24 : ((nI kSb16.length) : Int32).toInt = 4 := (by decide); unfold Rg at *; omega)) (cl_of (k := 1345 + 3 * cN n) k82 (by decide) (by simp only [cN]; have q0 := H_SB; have q1 := tx1; have q2 := tx3; have q4 := k11; have q7 := neI c27; have q8 := neI (Ne.symm c27); have q9 := k46; have q11 := k47; have q14 := (leI c60); have q15 := tx62; have q18 := kc78_0; have q19 := tx81; have q21 := H_n; have q22 : (0 : Int32).toInt = 0 := (by decide); have q23 : (1 : Int32).toInt = 1 := (by decide); have q24 : ((nI kSb16.length) : Int32).toInt = 4 := (by decide); unfold Rg at *; omega)) H_n k45 (by have q1 := H_sp; unfold Rg at q1; omega)), (by have q0 := H_SB; have q1 := tx1; have q2 := tx3; have q4 := k11; have q7 := neI c27; have q8 := neI (Ne.symm c27); have q9 := k46; have q11 := k47; have q14 := (leI c60); have q15 := tx62; have q18 := kc78_0; have q19 := tx81; have q21 := H_sp; have q22 := k75; have q23 : (0 : Int32).toInt = 0 := (by decide); have q24 : (1 : Int32).toInt = 1 := (by decide); have q25 : ((nI kSb16.length) : Int32).toInt = 4 := (by decide); unfold Rg at *; omega)⟩)⟩, by rw [ht]; exact hP9, va_K.moved hW.alike hK, hD9⟩, hS.F ht⟩) hS.2.2 dX11_readLawLine_115
      · skip
        refine lv_if_eq (tgt := 102) hx hb dX11_readLawLine_90 (by decide) (fun c107 => absurd c107 (by decide)) (fun _ => ?_)
        refine lv_aload_n hx hb dX11_readLawLine_93 rfl (lv_at hl 2 rfl) ?_
        have k108 : (sp : Int32).toInt + 5 ≤ (x73 : Int32).toInt := (by have q0 := H_SB; have q1 := tx1; have q2 := tx3; have q4 := k11; have q7 := neI c27; have q8 := neI (Ne.symm c27); have q9 := k46; have q11 := k47; have q14 := (leI c60); have q15 := tx62; have q18 := kc78_0; have q19 := H_sp; have q20 := k75; have q21 : (0 : Int32).toInt = 0 := (by decide); have q22 : (1 : Int32).toInt = 1 := (by decide); have q23 : ((nI kSb16.length) : Int32).toInt = 4 := (by decide); have q24 : ((nI kSb18.length) : Int32).toInt = 2 := (by decide); unfold Rg at *; omega)
        have k109 : Rg sp 0 395 := (by have q1 := k108; have q2 := H_sp; have q3 := k75; unfold Rg at *; exact ⟨by omega, by omega⟩)
        refine kcalli (wc := [(h, oX11 th aw ai ab ac hi re aP ta x73 en x74 0 fa a5 sp av an ak ne aW aC ag aT aN aF), (aw, kcI cI 2179 g64), (aP, .inl (cB, 400, .inl ft))]) (wr := []) hP hD hS hA [1, 0, 2] [] rfl rfl (by decide) (by decide) (by decide) (fun hPc hDc hFc => va_runV (As := []) (rest := []) ⟨hx, hb, hml, hown, hts⟩ (r_readCond0 l D cI cJ cB cC h th aw ai ab ac hi re aP ta x73 en x74 fa a5 sp av an ak ne aW aC ag aT aN aF g64 ft H.size k75 H_en k109 k65 k66 k67 k108) (cwV 0 hts gX11_readLawLine_X11_readCond rfl rfl rfl ⟨rfl, hdX11_readCond⟩ ⟨Nat.le_of_ble_eq_true rfl, Nat.le_of_ble_eq_true rfl⟩) ⟨kBlind, va_recv hK hPc (ci := 10) (q0 := 0) rfl rfl, fun U hU hW => ⟨rfl, by rw [hU], hN.warm hW, hE.pass hS hFc hW hU, by rw [hU]; exact hPc, va_K.moved hW.alike hK, hDc⟩⟩ rfl rfl hl.1 rfl (lv_room (Nat.le_of_ble_eq_true rfl)) dX11_readLawLine_94 ⟨Nat.le_of_ble_eq_true rfl, Nat.le_of_ble_eq_true rfl⟩) (fun r110 u H locs hw hP hD hS => ?_)
        obtain ⟨x111, x112, x113, x114, g115⟩ := u
        have hP : va_P D vwCl [(h, oX11 th aw ai ab ac hi re aP ta x111 en x112 x113 fa a5 x114 av an ak ne aW aC ag aT aN aF), (aw, kcI cI 2179 g115), (aP, .inl (cB, 400, .inl ft))] H := hP
        have hD : va_D A [(h, oX11 th aw ai ab ac hi re aP ta x111 en x112 x113 fa a5 x114 av an ak ne aW aC ag aT aN aF), (aw, kcI cI 2179 g115), (aP, .inl (cB, 400, .inl ft))] := hD
        obtain ⟨k116, k117, k118, k119, k120, k121, k122, k123, hw⟩ := hw
        rcases hw with rfl | ⟨rfl, kc124_0, kc124_1⟩
        · skip
          refine lv_if_ne (tgt := 102) hx hb dX11_readLawLine_97 (by decide) (fun c125 => absurd (by decide) c125) (fun _ => ?_)
          refine lv_iconst (v := 0) hx hb dX11_readLawLine_100 (by decide) ?_
          have hP9 := hP.sub (ws' := [(h, oX11 th aw ai ab ac hi re aP ta x111 en x112 x113 fa a5 x114 av an ak ne aW aC ag aT aN aF), (aw, kcI cI 2179 g115), (aP, .inl (cB, 400, .inl ft))]) [0, 1, 2] rfl
          have hD9 := hD.sub (ws' := [(h, oX11 th aw ai ab ac hi re aP ta x111 en x112 x113 fa a5 x114 av an ak ne aW aC ag aT aN aF), (aw, kcI cI 2179 g115), (aP, .inl (cB, 400, .inl ft))]) [0, 1, 2] (by decide) rfl
          exact W.zret (v := 0) hx hb hr (by decide) (fun t ht hW => ⟨⟨0, (x111, x112, x113, x114, g115), rfl, ⟨k116, k117, k119, k120, k121, k122, (kLet_eq (ti_mul ex1 (rg_lit (n := 3) (by decide)) H_n (by decide) rfl rfl) (kLet_eq (ti_add ex3 (rg_lit (n := 1343) (by decide)) k2 (by decide) rfl rfl) (kLet_eq (k12).symm (kif_f (neI c27) (kC_eq k48 (kC_eq rfl (kLet_eq (ke_st hg49) (kLet_eq (ke_ld ex59) (kif_t (leI c60) (kLet_eq (ti_add ex62 k4 (rg_lit (n := 1) (by decide)) (by decide) rfl rfl) (kLet_eq (ke_st hg64) (kC_eq k77 (kC_eq rfl (kif_f (by decide) (kC_eq k123 (kC_eq rfl (kC_eq rfl (kC_eq rfl (kC_eq rfl (kif_t rfl rfl)))))))))))))))))))), (Or.inl rfl)⟩, by rw [ht]; exact hP9, va_K.moved hW.alike hK, hD9⟩, hS.F ht⟩) hS.2.2 dX11_readLawLine_101
        · skip
          obtain rfl : x113 = (0 : Int32) := Int32.toInt_inj.mp (kc124_1.trans (by decide))
          refine lv_if_ne (tgt := 102) hx hb dX11_readLawLine_97 (by decide) (fun _ => ?_) (fun c126 => absurd c126 (by decide))
          refine lv_aload_n hx hb dX11_readLawLine_102 rfl (lv_at hl 2 rfl) ?_
          refine va_get (D := D) (ci := 10) (v := .ref aw) (C := RX11) (T := TX11) (N := 26) hx hb hts iG_X11 hown hK hP 0 rfl rfl 1 (by decide) (hts _ w5_3) (fun _ h9 => h9) rfl dX11_readLawLine_103 ?_
          refine lv_iload_n hx hb dX11_readLawLine_106 rfl (lv_at hl 1 rfl) ?_
          refine lv_iconst (v := 2) hx hb dX11_readLawLine_107 (by decide) ?_
          refine lv_iadd hx hb dX11_readLawLine_108 ?_
          refine lv_topi (fun x127 ex127 => ?_)
          have tx127 : x127.toInt = x3.toInt + 2 := ti_add ex127 k4 (rg_lit (n := 2) (by decide)) (by decide) rfl (by decide)
          have k128 : Rg x127 1345 1378 := rg_add ex127 k4 (rg_lit (n := 2) (by decide)) (by decide)
          refine lv_aload_n hx hb dX11_readLawLine_109 rfl (lv_at hl 2 rfl) ?_
          refine va_get (D := D) (ci := 10) (v := .int x114) (C := RX11) (T := TX11) (N := 26) hx hb hts iG_X11 hown hK hP 0 rfl rfl 15 (by decide) (hts _ w18_4) (fun _ h9 => h9) rfl dX11_readLawLine_110 ?_
          refine va_iast hx hb hK hP hD hS 1 0 rfl rfl (rg_in k128 (by decide)) dX11_readLawLine_113 (fun H locs hP hD hS => ?_)
          have hP : va_P D vwCl [(h, oX11 th aw ai ab ac hi re aP ta x111 en x112 0 fa a5 x114 av an ak ne aW aC ag aT aN aF), (aw, kcI cI 2179 (upd g115 x127.toNatClampNeg x114)), (aP, .inl (cB, 400, .inl ft))] H := hP
          have hD : va_D A [(h, oX11 th aw ai ab ac hi re aP ta x111 en x112 0 fa a5 x114 av an ak ne aW aC ag aT aN aF), (aw, kcI cI 2179 (upd g115 x127.toNatClampNeg x114)), (aP, .inl (cB, 400, .inl ft))] := hD
          have k130 : wB (upd g115 x127.toNatClampNeg x114) := wB_hi k120 k122 k128 (by decide)
          have k131 : wL (upd g115 x127.toNatClampNeg x114) := wL_out k121 k128 (by decide)
          have k132 : wW (upd g115 x127.toNatClampNeg x114) := wW_hi k122 k128 (by decide)
          generalize hg129 : (upd g115 x127.toNatClampNeg x114) = g129 at hP hD k130 k131 k132
          refine lv_iconst (v := 1) hx hb dX11_readLawLine_114 (by decide) ?_
          have hP9 := hP.sub (ws' := [(h, oX11 th aw ai ab ac hi re aP ta x111 en x112 0 fa a5 x114 av an ak ne aW aC ag aT aN aF), (aw, kcI cI 2179 g129), (aP, .inl (cB, 400, .inl ft))]) [0, 1, 2] rfl
          have hD9 := hD.sub (ws' := [(h, oX11 th aw ai ab ac hi re aP ta x111 en x112 0 fa a5 x114 av an ak ne aW aC ag aT aN aF), (aw, kcI cI 2179 g129), (aP, .inl (cB, 400, .inl ft))]) [0, 1, 2] (by decide) rfl
          exact W.zret (v := 1) hx hb hr (by decide) (fun t ht hW => ⟨⟨1, (x111, x112, (0 : Int32), x114, g129), rfl, ⟨k116, k117, k119, k130, k131, k132, (kLet_eq (ti_mul ex1 (rg_lit (n := 3) (by decide)) H_n (by decide) rfl rfl) (kLet_eq (ti_add ex3 (rg_lit (n := 1343) (by decide)) k2 (by decide) rfl rfl) (kLet_eq (k12).symm (kif_f (neI c27) (kC_eq k48 (kC_eq rfl (kLet_eq (ke_st hg49) (kLet_eq (ke_ld ex59) (kif_t (leI c60) (kLet_eq (ti_add ex62 k4 (rg_lit (n := 1) (by decide)) (by decide) rfl rfl) (kLet_eq (ke_st hg64) (kC_eq k77 (kC_eq rfl (kif_f (by decide) (kC_eq k123 (kC_eq rfl (kC_eq rfl (kC_eq rfl (kC_eq rfl (kif_f (by decide) (kLet_eq (ti_add ex127 k4 (rg_lit (n := 2) (by decide)) (by decide) rfl rfl) (kLet_eq (ke_st hg129) rfl)))))))))))))))))))))), (Or.inr ⟨rfl, (rLn_if hg49 hg64 kc124_0 hg129 (cl_of (k := 1343 + 3 * cN n) k4 (by decide) (by simp only [cN]; have q0 := H_SB; have q1 := tx1; have q2 := tx3; have q4 := k11; have q7 := neI c27; have q8 := neI (Ne.symm c27); have q9 := k46; have q11 := k47; have q14 := (leI c60); have q15 := tx62; have q18 := kc78_0; have q19 := k108; obtain ⟨-, -, u20, v20, w20⟩ := kc124_0; have q21 := kc124_1; have q22 := tx127; have q24 := H_n; have q25 : (0 : Int32).toInt = 0 := (by decide); have q26 : (1 : Int32).toInt = 1 := (by decide); have q27 : ((nI kSb16.length) : Int32).toInt = 4 := (by decide); have q28 : ((nI kSb18.length) : Int32).toInt = 2 := (by decide); unfold Rg at *; omega)) (cl_of (k := 1344 + 3 * cN n) k63 (by decide) (by simp only [cN]; have q0 := H_SB; have q1 := tx1; have q2 := tx3; have q4 := k11; have q7 := neI c27; have q8 := neI (Ne.symm c27); have q9 := k46; have q11 := k47; have q14 := (leI c60); have q15 := tx62; have q18 := kc78_0; have q19 := k108; obtain ⟨-, -, u20, v20, w20⟩ := kc124_0; have q21 := kc124_1; have q22 := tx127; have q24 := H_n; have q25 : (0 : Int32).toInt = 0 := (by decide); have q26 : (1 : Int32).toInt = 1 := (by decide); have q27 : ((nI kSb16.length) : Int32).toInt = 4 := (by decide); have q28 : ((nI kSb18.length) : Int32).toInt = 2 := (by decide); unfold Rg at *; omega)) (cl_of (k := 1345 + 3 * cN n) k128 (by decide) (by simp only [cN]; have q0 := H_SB; have q1 := tx1; have q2 := tx3; have q4 := k11; have q7 := neI c27; have q8 := neI (Ne.symm c27); have q9 := k46; have q11 := k47; have q14 := (leI c60); have q15 := tx62; have q18 := kc78_0; have q19 := k108; obtain ⟨-, -, u20, v20, w20⟩ := kc124_0; have q21 := kc124_1; have q22 := tx127; have q24 := H_n; have q25 : (0 : Int32).toInt = 0 := (by decide); have q26 : (1 : Int32).toInt = 1 := (by decide); have q27 : ((nI kSb16.length) : Int32).toInt = 4 := (by decide); have q28 : ((nI kSb18.length) : Int32).toInt = 2 := (by decide); unfold Rg at *; omega)) H_n k45), (by have q0 := H_SB; have q1 := tx1; have q2 := tx3; have q4 := k11; have q7 := neI c27; have q8 := neI (Ne.symm c27); have q9 := k46; have q11 := k47; have q14 := (leI c60); have q15 := tx62; have q18 := kc78_0; have q19 := k108; obtain ⟨-, -, u20, v20, w20⟩ := kc124_0; have q21 := kc124_1; have q22 := tx127; have q24 := k119; have q25 := k116; have q26 : (0 : Int32).toInt = 0 := (by decide); have q27 : (1 : Int32).toInt = 1 := (by decide); have q28 : ((nI kSb16.length) : Int32).toInt = 4 := (by decide); have q29 : ((nI kSb18.length) : Int32).toInt = 2 := (by decide); unfold Rg at *; omega)⟩)⟩, by rw [ht]; exact hP9, va_K.moved hW.alike hK, hD9⟩, hS.F ht⟩) hS.2.2 dX11_readLawLine_115
    · skip
      have k133 : Rg x59 (-2147483648) (-1) := rg_l1 (nleI c60) (rg_any x59) (rg_lit (n := 0) (by decide)) (by decide)
      refine lv_iconst (v := 0) hx hb dX11_readLawLine_65 (by decide) ?_
      have hP9 := hP.sub (ws' := [(h, oX11 th aw ai ab ac hi re aP ta x41 en x42 de fa a5 sp av an ak ne aW aC ag aT aN aF), (aw, kcI cI 2179 g49), (aP, .inl (cB, 400, .inl ft))]) [1, 0, 2] rfl
      have hD9 := hD.sub (ws' := [(h, oX11 th aw ai ab ac hi re aP ta x41 en x42 de fa a5 sp av an ak ne aW aC ag aT aN aF), (aw, kcI cI 2179 g49), (aP, .inl (cB, 400, .inl ft))]) [1, 0, 2] (by decide) rfl
      exact W.zret (v := 0) hx hb hr (by decide) (fun t ht hW => ⟨⟨0, (x41, x42, de, sp, g49), rfl, ⟨k43, k44, H_sp, k51, k52, k50, (kLet_eq (ti_mul ex1 (rg_lit (n := 3) (by decide)) H_n (by decide) rfl rfl) (kLet_eq (ti_add ex3 (rg_lit (n := 1343) (by decide)) k2 (by decide) rfl rfl) (kLet_eq (k12).symm (kif_f (neI c27) (kC_eq k48 (kC_eq rfl (kLet_eq (ke_st hg49) (kLet_eq (ke_ld ex59) (kif_f (xF_le c60) rfl))))))))), (Or.inl rfl)⟩, by rw [ht]; exact hP9, va_K.moved hW.alike hK, hD9⟩, hS.F ht⟩) hS.2.2 dX11_readLawLine_66
  · skip
    have k134 : Rg r9 0 0 := rg_q1 (eqI c27) k10 (rg_lit (n := 0) (by decide)) (by decide)
    refine lv_aload_n hx hb dX11_readLawLine_19 rfl (lv_at hl 2 rfl) ?_
    obtain ⟨q135, q136, hR137, hT138⟩ := kTx_17 hE.2.2
    refine va_ldcS hx hb hown hR137 dX11_readLawLine_20 ?_
    refine kpurei (wc := [(h, oX11 th aw ai ab ac hi re aP ta po en be de fa a5 sp av an ak ne aW aC ag aT aN aF), (aP, .inl (cB, 400, .inl ft))]) hP hD hS hA [0, 2] rfl (by decide) (fun hPc hDc hFc => va_runV (As := [.ref q135]) (rest := []) ⟨hx, hb, hml, hown, hts⟩ (r_isWord l D cI cJ cB cC h th aw ai ab ac hi re aP ta po en be de fa a5 sp av an ak ne aW aC ag aT aN aF ft q135 kSb17 q136 H.size H_po H_en H_be kSb17_le) (cwV 1 hts gX11_readLawLine_X11_isWord rfl rfl rfl ⟨rfl, hdX11_isWord⟩ ⟨Nat.le_of_ble_eq_true rfl, Nat.le_of_ble_eq_true rfl⟩) ⟨kBlindT, va_recv hK hPc (ci := 10) (q0 := 0) rfl rfl, fun U hU hW => ⟨rfl, by rw [hU], hN.warm hW, hE.pass hS hFc hW hU, hT138.pass hS hFc hW hU, by rw [hU]; exact hPc, va_K.moved hW.alike hK, hDc⟩⟩ rfl rfl hl.1 rfl (lv_room (Nat.le_of_ble_eq_true rfl)) dX11_readLawLine_22 ⟨Nat.le_of_ble_eq_true rfl, Nat.le_of_ble_eq_true rfl⟩) (fun r139 u H locs hw hP hS => ?_)
    obtain ⟨k140, k141, k142⟩ := hw
    refine lv_if_ne (tgt := 30) hx hb dX11_readLawLine_25 (by decide) (fun c143 => ?_) (fun c143 => ?_)
    · skip
      have k144 : Rg r139 1 1 := rg_n1 (neI c143) k140 (rg_lit (n := 0) (by decide)) (by decide)
      refine lv_aload_n hx hb dX11_readLawLine_30 rfl (lv_at hl 2 rfl) ?_
      refine va_get (D := D) (ci := 10) (v := .ref aw) (C := RX11) (T := TX11) (N := 26) hx hb hts iG_X11 hown hK hP 0 rfl rfl 1 (by decide) (hts _ w5_3) (fun _ h9 => h9) rfl dX11_readLawLine_31 ?_
      refine lv_iload_n hx hb dX11_readLawLine_34 rfl (lv_at hl 1 rfl) ?_
      refine lv_iload_n hx hb dX11_readLawLine_35 rfl (lv_at hl 0 rfl) ?_
      refine lv_if_eq (tgt := 50) hx hb dX11_readLawLine_36 (by decide) (fun _ => ?_) (fun c146 => absurd (rg_eq k134 (rg_lit (n := 0) (by decide)) (by decide)) c146)
      refine lv_iconst (v := (-1)) hx hb dX11_readLawLine_50 (by decide) ?_
      refine va_iast hx hb hK hP hD hS 1 0 rfl rfl (rg_in k4 (by decide)) dX11_readLawLine_51 (fun H locs hP hD hS => ?_)
      have hP : va_P D vwCl [(h, oX11 th aw ai ab ac hi re aP ta po en be de fa a5 sp av an ak ne aW aC ag aT aN aF), (aw, kcI cI 2179 (upd fw x3.toNatClampNeg (-1))), (aP, .inl (cB, 400, .inl ft))] H := hP
      have hD : va_D A [(h, oX11 th aw ai ab ac hi re aP ta po en be de fa a5 sp av an ak ne aW aC ag aT aN aF), (aw, kcI cI 2179 (upd fw x3.toNatClampNeg (-1))), (aP, .inl (cB, 400, .inl ft))] := hD
      have k148 : wW (upd fw x3.toNatClampNeg (-1)) := wW_hi H_fw_W k4 (by decide)
      have k149 : wB (upd fw x3.toNatClampNeg (-1)) := wB_hi H_fw_B H_fw_W k4 (by decide)
      have k150 : wL (upd fw x3.toNatClampNeg (-1)) := wL_out H_fw_L k4 (by decide)
      generalize hg147 : (upd fw x3.toNatClampNeg (-1)) = g147 at hP hD k148 k149 k150
      refine lv_iload_n hx hb dX11_readLawLine_52 rfl (lv_at hl 0 rfl) ?_
      refine lv_if_eq (tgt := 67) hx hb dX11_readLawLine_53 (by decide) (fun _ => ?_) (fun c152 => absurd (rg_eq k134 (rg_lit (n := 0) (by decide)) (by decide)) c152)
      refine lv_aload_n hx hb dX11_readLawLine_67 rfl (lv_at hl 2 rfl) ?_
      refine va_get (D := D) (ci := 10) (v := .ref aw) (C := RX11) (T := TX11) (N := 26) hx hb hts iG_X11 hown hK hP 0 rfl rfl 1 (by decide) (hts _ w5_3) (fun _ h9 => h9) rfl dX11_readLawLine_68 ?_
      refine lv_iload_n hx hb dX11_readLawLine_71 rfl (lv_at hl 1 rfl) ?_
      refine lv_iconst (v := 1) hx hb dX11_readLawLine_72 (by decide) ?_
      refine lv_iadd hx hb dX11_readLawLine_73 ?_
      refine lv_topi (fun x153 ex153 => ?_)
      have tx153 : x153.toInt = x3.toInt + 1 := ti_add ex153 k4 (rg_lit (n := 1) (by decide)) (by decide) rfl (by decide)
      have k154 : Rg x153 1344 1377 := rg_add ex153 k4 (rg_lit (n := 1) (by decide)) (by decide)
      refine lv_aload_n hx hb dX11_readLawLine_74 rfl (lv_at hl 2 rfl) ?_
      refine va_get (D := D) (ci := 10) (v := .int sp) (C := RX11) (T := TX11) (N := 26) hx hb hts iG_X11 hown hK hP 0 rfl rfl 15 (by decide) (hts _ w18_4) (fun _ h9 => h9) rfl dX11_readLawLine_75 ?_
      refine va_iast hx hb hK hP hD hS 1 0 rfl rfl (rg_in k154 (by decide)) dX11_readLawLine_78 (fun H locs hP hD hS => ?_)
      have hP : va_P D vwCl [(h, oX11 th aw ai ab ac hi re aP ta po en be de fa a5 sp av an ak ne aW aC ag aT aN aF), (aw, kcI cI 2179 (upd g147 x153.toNatClampNeg sp)), (aP, .inl (cB, 400, .inl ft))] H := hP
      have hD : va_D A [(h, oX11 th aw ai ab ac hi re aP ta po en be de fa a5 sp av an ak ne aW aC ag aT aN aF), (aw, kcI cI 2179 (upd g147 x153.toNatClampNeg sp)), (aP, .inl (cB, 400, .inl ft))] := hD
      have k156 : wW (upd g147 x153.toNatClampNeg sp) := wW_hi k148 k154 (by decide)
      have k157 : wB (upd g147 x153.toNatClampNeg sp) := wB_hi k149 k148 k154 (by decide)
      have k158 : wL (upd g147 x153.toNatClampNeg sp) := wL_out k150 k154 (by decide)
      generalize hg155 : (upd g147 x153.toNatClampNeg sp) = g155 at hP hD k156 k157 k158
      refine lv_aload_n hx hb dX11_readLawLine_79 rfl (lv_at hl 2 rfl) ?_
      refine lv_iconst (v := 0) hx hb dX11_readLawLine_80 (by decide) ?_
      refine va_put (D := D) (ci := 10) (v := .int 0) (ty := .int) (C := RX11) (T := TX11) (N := 26) hx hb hts iG_X11 tyX11 tyX11_ok nmX11 hown hK hP hD hS 0 rfl rfl 12 (by decide) (hts _ w21_17) (fun _ h9 => h9) rfl (by decide +kernel) rfl rfl (Nat.le_of_ble_eq_true rfl) dX11_readLawLine_81 (fun H locs hP hD hS => ?_)
      have hP : va_P D vwCl [(h, oX11 th aw ai ab ac hi re aP ta po en be 0 fa a5 sp av an ak ne aW aC ag aT aN aF), (aw, kcI cI 2179 g155), (aP, .inl (cB, 400, .inl ft))] H := hP
      have hD : va_D A [(h, oX11 th aw ai ab ac hi re aP ta po en be 0 fa a5 sp av an ak ne aW aC ag aT aN aF), (aw, kcI cI 2179 g155), (aP, .inl (cB, 400, .inl ft))] := hD
      refine lv_aload_n hx hb dX11_readLawLine_84 rfl (lv_at hl 2 rfl) ?_
      obtain ⟨q159, q160, hR161, hT162⟩ := kTx_18 hE.2.2
      refine va_ldcS hx hb hown hR161 dX11_readLawLine_85 ?_
      refine kcalli (wc := [(h, oX11 th aw ai ab ac hi re aP ta po en be 0 fa a5 sp av an ak ne aW aC ag aT aN aF), (aP, .inl (cB, 400, .inl ft))]) (wr := [(aw, kcI cI 2179 g155)]) hP hD hS hA [0, 2] [1] rfl rfl (by decide) (by decide) (by decide) (fun hPc hDc hFc => va_runV (As := [.ref q159]) (rest := []) ⟨hx, hb, hml, hown, hts⟩ (r_passes l D cI cJ cB cC h th aw ai ab ac hi re aP ta po en be 0 fa a5 sp av an ak ne aW aC ag aT aN aF ft q159 kSb18 q160 H.size H_po H_en kSb18_le) (cwV 1 hts gX11_readLawLine_X11_passes rfl rfl rfl ⟨rfl, hdX11_passes⟩ ⟨Nat.le_of_ble_eq_true rfl, Nat.le_of_ble_eq_true rfl⟩) ⟨kBlindT, va_recv hK hPc (ci := 10) (q0 := 0) rfl rfl, fun U hU hW => ⟨rfl, by rw [hU], hN.warm hW, hE.pass hS hFc hW hU, hT162.pass hS hFc hW hU, by rw [hU]; exact hPc, va_K.moved hW.alike hK, hDc⟩⟩ rfl rfl hl.1 rfl (lv_room (Nat.le_of_ble_eq_true rfl)) dX11_readLawLine_87 ⟨Nat.le_of_ble_eq_true rfl, Nat.le_of_ble_eq_true rfl⟩) (fun r163 u H locs hw hP hD hS => ?_)
      obtain ⟨x164, x165⟩ := u
      have hP : va_P D vwCl [(aw, kcI cI 2179 g155), (h, oX11 th aw ai ab ac hi re aP ta x164 en x165 0 fa a5 sp av an ak ne aW aC ag aT aN aF), (aP, .inl (cB, 400, .inl ft))] H := hP
      have hD : va_D A [(aw, kcI cI 2179 g155), (h, oX11 th aw ai ab ac hi re aP ta x164 en x165 0 fa a5 sp av an ak ne aW aC ag aT aN aF), (aP, .inl (cB, 400, .inl ft))] := hD
      obtain ⟨k166, k167, k168, hw⟩ := hw
      rcases hw with ⟨rfl, kc169_0⟩ | ⟨rfl, kc169_0⟩
      · skip
        refine lv_if_eq (tgt := 102) hx hb dX11_readLawLine_90 (by decide) (fun _ => ?_) (fun c171 => absurd (by decide) c171)
        refine lv_aload_n hx hb dX11_readLawLine_102 rfl (lv_at hl 2 rfl) ?_
        refine va_get (D := D) (ci := 10) (v := .ref aw) (C := RX11) (T := TX11) (N := 26) hx hb hts iG_X11 hown hK hP 1 rfl rfl 1 (by decide) (hts _ w5_3) (fun _ h9 => h9) rfl dX11_readLawLine_103 ?_
        refine lv_iload_n hx hb dX11_readLawLine_106 rfl (lv_at hl 1 rfl) ?_
        refine lv_iconst (v := 2) hx hb dX11_readLawLine_107 (by decide) ?_
        refine lv_iadd hx hb dX11_readLawLine_108 ?_
        refine lv_topi (fun x172 ex172 => ?_)
        have tx172 : x172.toInt = x3.toInt + 2 := ti_add ex172 k4 (rg_lit (n := 2) (by decide)) (by decide) rfl (by decide)
        have k173 : Rg x172 1345 1378 := rg_add ex172 k4 (rg_lit (n := 2) (by decide)) (by decide)
        refine lv_aload_n hx hb dX11_readLawLine_109 rfl (lv_at hl 2 rfl) ?_
        refine va_get (D := D) (ci := 10) (v := .int sp) (C := RX11) (T := TX11) (N := 26) hx hb hts iG_X11 hown hK hP 1 rfl rfl 15 (by decide) (hts _ w18_4) (fun _ h9 => h9) rfl dX11_readLawLine_110 ?_
        refine va_iast hx hb hK hP hD hS 0 0 rfl rfl (rg_in k173 (by decide)) dX11_readLawLine_113 (fun H locs hP hD hS => ?_)
        have hP : va_P D vwCl [(aw, kcI cI 2179 (upd g155 x172.toNatClampNeg sp)), (h, oX11 th aw ai ab ac hi re aP ta x164 en x165 0 fa a5 sp av an ak ne aW aC ag aT aN aF), (aP, .inl (cB, 400, .inl ft))] H := hP
        have hD : va_D A [(aw, kcI cI 2179 (upd g155 x172.toNatClampNeg sp)), (h, oX11 th aw ai ab ac hi re aP ta x164 en x165 0 fa a5 sp av an ak ne aW aC ag aT aN aF), (aP, .inl (cB, 400, .inl ft))] := hD
        have k175 : wW (upd g155 x172.toNatClampNeg sp) := wW_hi k156 k173 (by decide)
        have k176 : wB (upd g155 x172.toNatClampNeg sp) := wB_hi k157 k156 k173 (by decide)
        have k177 : wL (upd g155 x172.toNatClampNeg sp) := wL_out k158 k173 (by decide)
        generalize hg174 : (upd g155 x172.toNatClampNeg sp) = g174 at hP hD k175 k176 k177
        refine lv_iconst (v := 1) hx hb dX11_readLawLine_114 (by decide) ?_
        have hP9 := hP.sub (ws' := [(h, oX11 th aw ai ab ac hi re aP ta x164 en x165 0 fa a5 sp av an ak ne aW aC ag aT aN aF), (aw, kcI cI 2179 g174), (aP, .inl (cB, 400, .inl ft))]) [1, 0, 2] rfl
        have hD9 := hD.sub (ws' := [(h, oX11 th aw ai ab ac hi re aP ta x164 en x165 0 fa a5 sp av an ak ne aW aC ag aT aN aF), (aw, kcI cI 2179 g174), (aP, .inl (cB, 400, .inl ft))]) [1, 0, 2] (by decide) rfl
        exact W.zret (v := 1) hx hb hr (by decide) (fun t ht hW => ⟨⟨1, (x164, x165, (0 : Int32), sp, g174), rfl, ⟨k166, k167, H_sp, k176, k177, k175, (kLet_eq (ti_mul ex1 (rg_lit (n := 3) (by decide)) H_n (by decide) rfl rfl) (kLet_eq (ti_add ex3 (rg_lit (n := 1343) (by decide)) k2 (by decide) rfl rfl) (kLet_eq (k12).symm (kif_t (eqI c27) (kLet_eq (k142).symm (kif_f (neI c143) (kLet_eq (ke_st hg147) (kLet_eq (ti_add ex153 k4 (rg_lit (n := 1) (by decide)) (by decide) rfl rfl) (kLet_eq (ke_st hg155) (kC_eq k168 (kC_eq rfl (kif_t rfl (kLet_eq (ti_add ex172 k4 (rg_lit (n := 2) (by decide)) (by decide) rfl rfl) (kLet_eq (ke_st hg174) rfl)))))))))))))), (Or.inr ⟨rfl, (rLn_no hg147 hg155 hg174 (cl_of (k := 1343 + 3 * cN n) k4 (by decide) (by simp only [cN]; have q0 := H_SB; have q1 := tx1; have q2 := tx3; have q4 := k11; have q6 := (eqI c27); have q8 := k141; have q10 := neI c143; have q11 := neI (Ne.symm c143); have q13 := tx153; have q16 := kc169_0; have q17 := tx172; have q19 := H_n; have q20 : (0 : Int32).toInt = 0 := (by decide); have q21 : (1 : Int32).toInt = 1 := (by decide); have q22 : ((nI kSb16.length) : Int32).toInt = 4 := (by decide); have q23 : ((nI kSb17.length) : Int32).toInt = 3 := (by decide); unfold Rg at *; omega)) (cl_of (k := 1344 + 3 * cN n) k154 (by decide) (by simp only [cN]; have q0 := H_SB; have q1 := tx1; have q2 := tx3; have q4 := k11; have q6 := (eqI c27); have q8 := k141; have q10 := neI c143; have q11 := neI (Ne.symm c143); have q13 := tx153; have q16 := kc169_0; have q17 := tx172; have q19 := H_n; have q20 : (0 : Int32).toInt = 0 := (by decide); have q21 : (1 : Int32).toInt = 1 := (by decide); have q22 : ((nI kSb16.length) : Int32).toInt = 4 := (by decide); have q23 : ((nI kSb17.length) : Int32).toInt = 3 := (by decide); unfold Rg at *; omega)) (cl_of (k := 1345 + 3 * cN n) k173 (by decide) (by simp only [cN]; have q0 := H_SB; have q1 := tx1; have q2 := tx3; have q4 := k11; have q6 := (eqI c27); have q8 := k141; have q10 := neI c143; have q11 := neI (Ne.symm c143); have q13 := tx153; have q16 := kc169_0; have q17 := tx172; have q19 := H_n; have q20 : (0 : Int32).toInt = 0 := (by decide); have q21 : (1 : Int32).toInt = 1 := (by decide); have q22 : ((nI kSb16.length) : Int32).toInt = 4 := (by decide); have q23 : ((nI kSb17.length) : Int32).toInt = 3 := (by decide); unfold Rg at *; omega)) H_n (rg_w (rg_lit (n := -1) (by decide)) (by decide)) (by have q1 := H_sp; unfold Rg at q1; omega)), (by have q0 := H_SB; have q1 := tx1; have q2 := tx3; have q4 := k11; have q6 := (eqI c27); have q8 := k141; have q10 := neI c143; have q11 := neI (Ne.symm c143); have q13 := tx153; have q16 := kc169_0; have q17 := tx172; have q19 := H_sp; have q20 := k166; have q21 : (0 : Int32).toInt = 0 := (by decide); have q22 : (1 : Int32).toInt = 1 := (by decide); have q23 : ((nI kSb16.length) : Int32).toInt = 4 := (by decide); have q24 : ((nI kSb17.length) : Int32).toInt = 3 := (by decide); unfold Rg at *; omega)⟩)⟩, by rw [ht]; exact hP9, va_K.moved hW.alike hK, hD9⟩, hS.F ht⟩) hS.2.2 dX11_readLawLine_115
      · skip
        refine lv_if_eq (tgt := 102) hx hb dX11_readLawLine_90 (by decide) (fun c198 => absurd c198 (by decide)) (fun _ => ?_)
        refine lv_aload_n hx hb dX11_readLawLine_93 rfl (lv_at hl 2 rfl) ?_
        have k199 : (sp : Int32).toInt + 5 ≤ (x164 : Int32).toInt := (by have q0 := H_SB; have q1 := tx1; have q2 := tx3; have q4 := k11; have q6 := (eqI c27); have q8 := k141; have q10 := neI c143; have q11 := neI (Ne.symm c143); have q13 := tx153; have q16 := kc169_0; have q17 := H_sp; have q18 := k166; have q19 : (0 : Int32).toInt = 0 := (by decide); have q20 : (1 : Int32).toInt = 1 := (by decide); have q21 : ((nI kSb16.length) : Int32).toInt = 4 := (by decide); have q22 : ((nI kSb17.length) : Int32).toInt = 3 := (by decide); have q23 : ((nI kSb18.length) : Int32).toInt = 2 := (by decide); unfold Rg at *; omega)
        have k200 : Rg sp 0 395 := (by have q1 := k199; have q2 := H_sp; have q3 := k166; unfold Rg at *; exact ⟨by omega, by omega⟩)
        refine kcalli (wc := [(h, oX11 th aw ai ab ac hi re aP ta x164 en x165 0 fa a5 sp av an ak ne aW aC ag aT aN aF), (aw, kcI cI 2179 g155), (aP, .inl (cB, 400, .inl ft))]) (wr := []) hP hD hS hA [1, 0, 2] [] rfl rfl (by decide) (by decide) (by decide) (fun hPc hDc hFc => va_runV (As := []) (rest := []) ⟨hx, hb, hml, hown, hts⟩ (r_readCond0 l D cI cJ cB cC h th aw ai ab ac hi re aP ta x164 en x165 fa a5 sp av an ak ne aW aC ag aT aN aF g155 ft H.size k166 H_en k200 k156 k157 k158 k199) (cwV 0 hts gX11_readLawLine_X11_readCond rfl rfl rfl ⟨rfl, hdX11_readCond⟩ ⟨Nat.le_of_ble_eq_true rfl, Nat.le_of_ble_eq_true rfl⟩) ⟨kBlind, va_recv hK hPc (ci := 10) (q0 := 0) rfl rfl, fun U hU hW => ⟨rfl, by rw [hU], hN.warm hW, hE.pass hS hFc hW hU, by rw [hU]; exact hPc, va_K.moved hW.alike hK, hDc⟩⟩ rfl rfl hl.1 rfl (lv_room (Nat.le_of_ble_eq_true rfl)) dX11_readLawLine_94 ⟨Nat.le_of_ble_eq_true rfl, Nat.le_of_ble_eq_true rfl⟩) (fun r201 u H locs hw hP hD hS => ?_)
        obtain ⟨x202, x203, x204, x205, g206⟩ := u
        have hP : va_P D vwCl [(h, oX11 th aw ai ab ac hi re aP ta x202 en x203 x204 fa a5 x205 av an ak ne aW aC ag aT aN aF), (aw, kcI cI 2179 g206), (aP, .inl (cB, 400, .inl ft))] H := hP
        have hD : va_D A [(h, oX11 th aw ai ab ac hi re aP ta x202 en x203 x204 fa a5 x205 av an ak ne aW aC ag aT aN aF), (aw, kcI cI 2179 g206), (aP, .inl (cB, 400, .inl ft))] := hD
        obtain ⟨k207, k208, k209, k210, k211, k212, k213, k214, hw⟩ := hw
        rcases hw with rfl | ⟨rfl, kc215_0, kc215_1⟩
        · skip
          refine lv_if_ne (tgt := 102) hx hb dX11_readLawLine_97 (by decide) (fun c216 => absurd (by decide) c216) (fun _ => ?_)
          refine lv_iconst (v := 0) hx hb dX11_readLawLine_100 (by decide) ?_
          have hP9 := hP.sub (ws' := [(h, oX11 th aw ai ab ac hi re aP ta x202 en x203 x204 fa a5 x205 av an ak ne aW aC ag aT aN aF), (aw, kcI cI 2179 g206), (aP, .inl (cB, 400, .inl ft))]) [0, 1, 2] rfl
          have hD9 := hD.sub (ws' := [(h, oX11 th aw ai ab ac hi re aP ta x202 en x203 x204 fa a5 x205 av an ak ne aW aC ag aT aN aF), (aw, kcI cI 2179 g206), (aP, .inl (cB, 400, .inl ft))]) [0, 1, 2] (by decide) rfl
          exact W.zret (v := 0) hx hb hr (by decide) (fun t ht hW => ⟨⟨0, (x202, x203, x204, x205, g206), rfl, ⟨k207, k208, k210, k211, k212, k213, (kLet_eq (ti_mul ex1 (rg_lit (n := 3) (by decide)) H_n (by decide) rfl rfl) (kLet_eq (ti_add ex3 (rg_lit (n := 1343) (by decide)) k2 (by decide) rfl rfl) (kLet_eq (k12).symm (kif_t (eqI c27) (kLet_eq (k142).symm (kif_f (neI c143) (kLet_eq (ke_st hg147) (kLet_eq (ti_add ex153 k4 (rg_lit (n := 1) (by decide)) (by decide) rfl rfl) (kLet_eq (ke_st hg155) (kC_eq k168 (kC_eq rfl (kif_f (by decide) (kC_eq k214 (kC_eq rfl (kC_eq rfl (kC_eq rfl (kC_eq rfl (kif_t rfl rfl)))))))))))))))))), (Or.inl rfl)⟩, by rw [ht]; exact hP9, va_K.moved hW.alike hK, hD9⟩, hS.F ht⟩) hS.2.2 dX11_readLawLine_101
        · skip
          obtain rfl : x204 = (0 : Int32) := Int32.toInt_inj.mp (kc215_1.trans (by decide))
          refine lv_if_ne (tgt := 102) hx hb dX11_readLawLine_97 (by decide) (fun _ => ?_) (fun c217 => absurd c217 (by decide))
          refine lv_aload_n hx hb dX11_readLawLine_102 rfl (lv_at hl 2 rfl) ?_
          refine va_get (D := D) (ci := 10) (v := .ref aw) (C := RX11) (T := TX11) (N := 26) hx hb hts iG_X11 hown hK hP 0 rfl rfl 1 (by decide) (hts _ w5_3) (fun _ h9 => h9) rfl dX11_readLawLine_103 ?_
          refine lv_iload_n hx hb dX11_readLawLine_106 rfl (lv_at hl 1 rfl) ?_
          refine lv_iconst (v := 2) hx hb dX11_readLawLine_107 (by decide) ?_
          refine lv_iadd hx hb dX11_readLawLine_108 ?_
          refine lv_topi (fun x218 ex218 => ?_)
          have tx218 : x218.toInt = x3.toInt + 2 := ti_add ex218 k4 (rg_lit (n := 2) (by decide)) (by decide) rfl (by decide)
          have k219 : Rg x218 1345 1378 := rg_add ex218 k4 (rg_lit (n := 2) (by decide)) (by decide)
          refine lv_aload_n hx hb dX11_readLawLine_109 rfl (lv_at hl 2 rfl) ?_
          refine va_get (D := D) (ci := 10) (v := .int x205) (C := RX11) (T := TX11) (N := 26) hx hb hts iG_X11 hown hK hP 0 rfl rfl 15 (by decide) (hts _ w18_4) (fun _ h9 => h9) rfl dX11_readLawLine_110 ?_
          refine va_iast hx hb hK hP hD hS 1 0 rfl rfl (rg_in k219 (by decide)) dX11_readLawLine_113 (fun H locs hP hD hS => ?_)
          have hP : va_P D vwCl [(h, oX11 th aw ai ab ac hi re aP ta x202 en x203 0 fa a5 x205 av an ak ne aW aC ag aT aN aF), (aw, kcI cI 2179 (upd g206 x218.toNatClampNeg x205)), (aP, .inl (cB, 400, .inl ft))] H := hP
          have hD : va_D A [(h, oX11 th aw ai ab ac hi re aP ta x202 en x203 0 fa a5 x205 av an ak ne aW aC ag aT aN aF), (aw, kcI cI 2179 (upd g206 x218.toNatClampNeg x205)), (aP, .inl (cB, 400, .inl ft))] := hD
          have k221 : wB (upd g206 x218.toNatClampNeg x205) := wB_hi k211 k213 k219 (by decide)
          have k222 : wL (upd g206 x218.toNatClampNeg x205) := wL_out k212 k219 (by decide)
          have k223 : wW (upd g206 x218.toNatClampNeg x205) := wW_hi k213 k219 (by decide)
          generalize hg220 : (upd g206 x218.toNatClampNeg x205) = g220 at hP hD k221 k222 k223
          refine lv_iconst (v := 1) hx hb dX11_readLawLine_114 (by decide) ?_
          have hP9 := hP.sub (ws' := [(h, oX11 th aw ai ab ac hi re aP ta x202 en x203 0 fa a5 x205 av an ak ne aW aC ag aT aN aF), (aw, kcI cI 2179 g220), (aP, .inl (cB, 400, .inl ft))]) [0, 1, 2] rfl
          have hD9 := hD.sub (ws' := [(h, oX11 th aw ai ab ac hi re aP ta x202 en x203 0 fa a5 x205 av an ak ne aW aC ag aT aN aF), (aw, kcI cI 2179 g220), (aP, .inl (cB, 400, .inl ft))]) [0, 1, 2] (by decide) rfl
          exact W.zret (v := 1) hx hb hr (by decide) (fun t ht hW => ⟨⟨1, (x202, x203, (0 : Int32), x205, g220), rfl, ⟨k207, k208, k210, k221, k222, k223, (kLet_eq (ti_mul ex1 (rg_lit (n := 3) (by decide)) H_n (by decide) rfl rfl) (kLet_eq (ti_add ex3 (rg_lit (n := 1343) (by decide)) k2 (by decide) rfl rfl) (kLet_eq (k12).symm (kif_t (eqI c27) (kLet_eq (k142).symm (kif_f (neI c143) (kLet_eq (ke_st hg147) (kLet_eq (ti_add ex153 k4 (rg_lit (n := 1) (by decide)) (by decide) rfl rfl) (kLet_eq (ke_st hg155) (kC_eq k168 (kC_eq rfl (kif_f (by decide) (kC_eq k214 (kC_eq rfl (kC_eq rfl (kC_eq rfl (kC_eq rfl (kif_f (by decide) (kLet_eq (ti_add ex218 k4 (rg_lit (n := 2) (by decide)) (by decide) rfl rfl) (kLet_eq (ke_st hg220) rfl)))))))))))))))))))), (Or.inr ⟨rfl, (rLn_if hg147 hg155 kc215_0 hg220 (cl_of (k := 1343 + 3 * cN n) k4 (by decide) (by simp only [cN]; have q0 := H_SB; have q1 := tx1; have q2 := tx3; have q4 := k11; have q6 := (eqI c27); have q8 := k141; have q10 := neI c143; have q11 := neI (Ne.symm c143); have q13 := tx153; have q16 := kc169_0; have q17 := k199; obtain ⟨-, -, u18, v18, w18⟩ := kc215_0; have q19 := kc215_1; have q20 := tx218; have q22 := H_n; have q23 : (0 : Int32).toInt = 0 := (by decide); have q24 : (1 : Int32).toInt = 1 := (by decide); have q25 : ((nI kSb16.length) : Int32).toInt = 4 := (by decide); have q26 : ((nI kSb17.length) : Int32).toInt = 3 := (by decide); have q27 : ((nI kSb18.length) : Int32).toInt = 2 := (by decide); unfold Rg at *; omega)) (cl_of (k := 1344 + 3 * cN n) k154 (by decide) (by simp only [cN]; have q0 := H_SB; have q1 := tx1; have q2 := tx3; have q4 := k11; have q6 := (eqI c27); have q8 := k141; have q10 := neI c143; have q11 := neI (Ne.symm c143); have q13 := tx153; have q16 := kc169_0; have q17 := k199; obtain ⟨-, -, u18, v18, w18⟩ := kc215_0; have q19 := kc215_1; have q20 := tx218; have q22 := H_n; have q23 : (0 : Int32).toInt = 0 := (by decide); have q24 : (1 : Int32).toInt = 1 := (by decide); have q25 : ((nI kSb16.length) : Int32).toInt = 4 := (by decide); have q26 : ((nI kSb17.length) : Int32).toInt = 3 := (by decide); have q27 : ((nI kSb18.length) : Int32).toInt = 2 := (by decide); unfold Rg at *; omega)) (cl_of (k := 1345 + 3 * cN n) k219 (by decide) (by simp only [cN]; have q0 := H_SB; have q1 := tx1; have q2 := tx3; have q4 := k11; have q6 := (eqI c27); have q8 := k141; have q10 := neI c143; have q11 := neI (Ne.symm c143); have q13 := tx153; have q16 := kc169_0; have q17 := k199; obtain ⟨-, -, u18, v18, w18⟩ := kc215_0; have q19 := kc215_1; have q20 := tx218; have q22 := H_n; have q23 : (0 : Int32).toInt = 0 := (by decide); have q24 : (1 : Int32).toInt = 1 := (by decide); have q25 : ((nI kSb16.length) : Int32).toInt = 4 := (by decide); have q26 : ((nI kSb17.length) : Int32).toInt = 3 := (by decide); have q27 : ((nI kSb18.length) : Int32).toInt = 2 := (by decide); unfold Rg at *; omega)) H_n (rg_w (rg_lit (n := -1) (by decide)) (by decide))), (by have q0 := H_SB; have q1 := tx1; have q2 := tx3; have q4 := k11; have q6 := (eqI c27); have q8 := k141; have q10 := neI c143; have q11 := neI (Ne.symm c143); have q13 := tx153; have q16 := kc169_0; have q17 := k199; obtain ⟨-, -, u18, v18, w18⟩ := kc215_0; have q19 := kc215_1; have q20 := tx218; have q22 := k210; have q23 := k207; have q24 : (0 : Int32).toInt = 0 := (by decide); have q25 : (1 : Int32).toInt = 1 := (by decide); have q26 : ((nI kSb16.length) : Int32).toInt = 4 := (by decide); have q27 : ((nI kSb17.length) : Int32).toInt = 3 := (by decide); have q28 : ((nI kSb18.length) : Int32).toInt = 2 := (by decide); unfold Rg at *; omega)⟩)⟩, by rw [ht]; exact hP9, va_K.moved hW.alike hK, hD9⟩, hS.F ht⟩) hS.2.2 dX11_readLawLine_115
    · skip
      have k224 : Rg r139 0 0 := rg_q1 (eqI c143) k140 (rg_lit (n := 0) (by decide)) (by decide)
      refine lv_iconst (v := 0) hx hb dX11_readLawLine_28 (by decide) ?_
      have hP9 := hP.sub (ws' := [(h, oX11 th aw ai ab ac hi re aP ta po en be de fa a5 sp av an ak ne aW aC ag aT aN aF), (aw, kcI cI 2179 fw), (aP, .inl (cB, 400, .inl ft))]) [0, 1, 2] rfl
      have hD9 := hD.sub (ws' := [(h, oX11 th aw ai ab ac hi re aP ta po en be de fa a5 sp av an ak ne aW aC ag aT aN aF), (aw, kcI cI 2179 fw), (aP, .inl (cB, 400, .inl ft))]) [0, 1, 2] (by decide) rfl
      exact W.zret (v := 0) hx hb hr (by decide) (fun t ht hW => ⟨⟨0, (po, be, de, sp, fw), rfl, ⟨H_po, H_be, H_sp, H_fw_B, H_fw_L, H_fw_W, (kLet_eq (ti_mul ex1 (rg_lit (n := 3) (by decide)) H_n (by decide) rfl rfl) (kLet_eq (ti_add ex3 (rg_lit (n := 1343) (by decide)) k2 (by decide) rfl rfl) (kLet_eq (k12).symm (kif_t (eqI c27) (kLet_eq (k142).symm (kif_t (eqI c143) rfl)))))), (Or.inl rfl)⟩, by rw [ht]; exact hP9, va_K.moved hW.alike hK, hD9⟩, hS.F ht⟩) hS.2.2 dX11_readLawLine_29

def kwX11_readLine : List Cond := .code yX11_readLine cX11_readLine 3 (some .boolean) :: kG
theorem hdX11_readLine : yX11_readLine.cls ≠ "java/lang/invoke/MethodHandle" ∧ yX11_readLine.cls ≠ "java/lang/invoke/VarHandle" ∧ (parseMethodDescriptor yX11_readLine.desc).map (fun d => d.parameters.length) = some 2 := by decide +kernel
theorem gX11_readLine_X11_letters : GoodIn kG (wsV RX11 111 RX11 yX11_letters kwX11_letters) := gK w18_23 (gK w19_0 (gK w19_1 (gK w0_5 (gK w19_2 gGG))))
theorem gX11_readLine_X11_readLawLine : GoodIn kG (wsV RX11 244 RX11 yX11_readLawLine kwX11_readLawLine) := gK w21_13 (gK w21_14 (gK w21_15 (gK w0_5 (gK w21_16 gGG))))
theorem dX11_readLine_0 : decode cX11_readLine 0 = .ok (.aload_n 0, 1) := by decide +kernel
theorem dX11_readLine_1 : decode cX11_readLine 1 = .ok (.invokevirtual 111, 3) := by decide +kernel
theorem dX11_readLine_4 : decode cX11_readLine 4 = .ok (.iload_n 2, 1) := by decide +kernel
theorem dX11_readLine_5 : decode cX11_readLine 5 = .ok (.iload_n 1, 1) := by decide +kernel
theorem dX11_readLine_6 : decode cX11_readLine 6 = .ok (.ifCond .eq 8, 3) := by decide +kernel
theorem dX11_readLine_14 : decode cX11_readLine 14 = .ok (.bipush 12, 2) := by decide +kernel
theorem dX11_readLine_16 : decode cX11_readLine 16 = .ok (.if_icmp .ge 29, 3) := by decide +kernel
theorem dX11_readLine_19 : decode cX11_readLine 19 = .ok (.iload_n 1, 1) := by decide +kernel
theorem dX11_readLine_20 : decode cX11_readLine 20 = .ok (.ifCond .eq 13, 3) := by decide +kernel
theorem dX11_readLine_33 : decode cX11_readLine 33 = .ok (.aload_n 0, 1) := by decide +kernel
theorem dX11_readLine_34 : decode cX11_readLine 34 = .ok (.iload_n 2, 1) := by decide +kernel
theorem dX11_readLine_35 : decode cX11_readLine 35 = .ok (.invokevirtual 244, 3) := by decide +kernel
theorem dX11_readLine_38 : decode cX11_readLine 38 = .ok (.ifCond .eq 7, 3) := by decide +kernel
theorem dX11_readLine_41 : decode cX11_readLine 41 = .ok (.iconst 1, 1) := by decide +kernel
theorem dX11_readLine_42 : decode cX11_readLine 42 = .ok (.goto 4, 3) := by decide +kernel
theorem dX11_readLine_45 : decode cX11_readLine 45 = .ok (.iconst 0, 1) := by decide +kernel
theorem dX11_readLine_46 : decode cX11_readLine 46 = .ok (.ireturn, 1) := by decide +kernel
set_option maxHeartbeats 4000000 in
set_option maxRecDepth 100000 in
/-- reference: readLine -/
theorem r_readLine0 (l : Launch) (D : va_G) (cI cJ cB cC : ClassId) (h : Nat) (th : Int32) (aw : Nat) (ai : Nat) (ab : Nat) (ac : Nat) (hi : Int32) (re : Int32) (aP : Nat) (ta : Int32) (po : Int32) (en : Int32) (be : Int32) (de : Int32) (fa : Int32) (a5 : Nat) (sp : Int32) (av : Nat) (an : Nat) (ak : Nat) (ne : Int32) (aW : Nat) (aC : Nat) (ag : Nat) (aT : Nat) (aN : Nat) (aF : Nat) (fw : Nat → Int32) (ft : Nat → Int32) (n : Int32) (sz : Nat) (H_po : Rg po 0 400) (H_en : Rg en 0 400) (H_sp : Rg sp 0 400) (H_n : Rg n 0 65535) (H_fw_W : wW fw) (H_fw_B : wB fw) (H_fw_L : wL fw) (H_SQ : (sp : Int32).toInt ≤ (po : Int32).toInt) : Met l yX11_readLine kwX11_readLine ({ frames := 29, cells := 0, slots := 0, locals := 599 } : Room) (kPre D (kT cI cJ cB cC) sz [(h, oX11 th aw ai ab ac hi re aP ta po en be de fa a5 sp av an ak ne aW aC ag aT aN aF), (aw, kcI cI 2179 fw), (aP, .inl (cB, 400, .inl ft))] [.ref h, .int 0, .int n]) (va_Qi (fun (r : Int32) (uu : Int32 × Int32 × Int32 × Int32 × (Nat → Int32)) => match uu with | (n0_, n1_, n2_, n3_, f4_) => Rg n0_ 0 400 ∧ Rg n1_ 0 400 ∧ Rg n3_ 0 400 ∧ wB f4_ ∧ wL f4_ ∧ wW f4_ ∧ F_r_readLine0 (po : Int32).toInt (en : Int32).toInt (de : Int32).toInt (sp : Int32).toInt (gT fw) (gT ft) (n : Int32).toInt = ((r : Int32).toInt, (n0_ : Int32).toInt, (n1_ : Int32).toInt, (n2_ : Int32).toInt, (n3_ : Int32).toInt, (gT f4_)) ∧ ((r = 0) ∨ (r = 1 ∧ Rg n 0 11 ∧ rLn fw f4_ n sp n3_ ∧ (n3_ : Int32).toInt ≤ (n0_ : Int32).toInt))) (fun (uu : Int32 × Int32 × Int32 × Int32 × (Nat → Int32)) (t : State) => match uu with | (n0_, n1_, n2_, n3_, f4_) => kB D (kT cI cJ cB cC) (va_A [(h, oX11 th aw ai ab ac hi re aP ta po en be de fa a5 sp av an ak ne aW aC ag aT aN aF), (aw, kcI cI 2179 fw), (aP, .inl (cB, 400, .inl ft))] sz) [(h, oX11 th aw ai ab ac hi re aP ta n0_ en n1_ n2_ fa a5 n3_ av an ak ne aW aC ag aT aN aF), (aw, kcI cI 2179 f4_), (aP, .inl (cB, 400, .inl ft))] t) (va_A [(h, oX11 th aw ai ab ac hi re aP ta po en be de fa a5 sp av an ak ne aW aC ag aT aN aF), (aw, kcI cI 2179 fw), (aP, .inl (cB, 400, .inl ft))] sz)) 0 0 (va_A [(h, oX11 th aw ai ab ac hi re aP ta po en be de fa a5 sp av an ak ne aW aC ag aT aN aF), (aw, kcI cI 2179 fw), (aP, .inl (cB, 400, .inl ft))] sz) := by
  refine Met.ofW (cc := cX11_readLine) (maxL := 3) (ret := (some .boolean)) (by decide) rfl ?_
  intro p e s m args below meth c s₁ B hml hv
  obtain ⟨rfl, hsz, hN, hE, hP, hK, hD0⟩ := hv
  have hx := B.exec
  have hb := B.bytes
  have hr := B.returns
  have hts := fun (w : Cond) (h : w ∈ kG) => atoms_spec (ws := kwX11_readLine) B.pre w (List.mem_cons_of_mem _ h)
  have hown : s.vm.findClass RX11 = some m.cls := findClass_of_methodNamed B.named
  subst hsz
  have hD := hD0.self (sz := s.heap.size)
  generalize hAe : va_A [(h, oX11 th aw ai ab ac hi re aP ta po en be de fa a5 sp av an ak ne aW aC ag aT aN aF), (aw, kcI cI 2179 fw), (aP, .inl (cB, 400, .inl ft))] s.heap.size = A at hD hE ⊢
  have hA : ∀ q : Nat, s.heap.size ≤ q → A q := fun q h => by rw [← hAe]; exact Or.inr h
  have hl := lv_entry ([.ref h, .int 0, .int n]) (n := 3) (Nat.le_of_ble_eq_true rfl)
  rw [lg_entry_eq]
  generalize (lg_sl ([.ref h, .int 0, .int n]) ++ List.replicate (3 - (lg_sl ([.ref h, .int 0, .int n])).length) Slot.unset).toArray = ls at hl ⊢
  have hl : lv_has ls 3 [(0, .ref h), (1, .int 0), (2, .int n)] := hl
  obtain ⟨H, hH0⟩ : ∃ H, H = s.heap := ⟨_, rfl⟩
  have hS : va_S A s.heap H [] := by rw [hH0]; exact va_S.rf
  have hP : va_P D vwCl [(h, oX11 th aw ai ab ac hi re aP ta po en be de fa a5 sp av an ak ne aW aC ag aT aN aF), (aw, kcI cI 2179 fw), (aP, .inl (cB, 400, .inl ft))] H := by rw [hH0]; exact hP
  refine kHeap hH0 ?_
  clear hH0
  refine lv_aload_n hx hb dX11_readLine_0 rfl (lv_at hl 0 rfl) ?_
  refine kcallv (wc := [(h, oX11 th aw ai ab ac hi re aP ta po en be de fa a5 sp av an ak ne aW aC ag aT aN aF), (aP, .inl (cB, 400, .inl ft))]) (wr := [(aw, kcI cI 2179 fw)]) hP hD hS hA [0, 2] [1] rfl rfl (by decide) (by decide) (by decide) (fun hPc hDc hFc => va_runV (As := []) (rest := []) ⟨hx, hb, hml, hown, hts⟩ (r_letters l D cI cJ cB cC h th aw ai ab ac hi re aP ta po en be de fa a5 sp av an ak ne aW aC ag aT aN aF ft H.size H_po H_en) (cwV 0 hts gX11_readLine_X11_letters rfl rfl rfl ⟨rfl, hdX11_letters⟩ ⟨Nat.le_of_ble_eq_true rfl, Nat.le_of_ble_eq_true rfl⟩) ⟨kBlind, va_recv hK hPc (ci := 10) (q0 := 0) rfl rfl, fun U hU hW => ⟨rfl, by rw [hU], hN.warm hW, hE.pass hS hFc hW hU, by rw [hU]; exact hPc, va_K.moved hW.alike hK, hDc⟩⟩ rfl rfl hl.1 rfl (lv_room (Nat.le_of_ble_eq_true rfl)) dX11_readLine_1 ⟨Nat.le_of_ble_eq_true rfl, Nat.le_of_ble_eq_true rfl⟩) (fun u H locs hw hP hD hS => ?_)
  obtain ⟨x1, x2⟩ := u
  have hP : va_P D vwCl [(aw, kcI cI 2179 fw), (h, oX11 th aw ai ab ac hi re aP ta x1 en x2 de fa a5 sp av an ak ne aW aC ag aT aN aF), (aP, .inl (cB, 400, .inl ft))] H := hP
  have hD : va_D A [(aw, kcI cI 2179 fw), (h, oX11 th aw ai ab ac hi re aP ta x1 en x2 de fa a5 sp av an ak ne aW aC ag aT aN aF), (aP, .inl (cB, 400, .inl ft))] := hD
  obtain ⟨k3, k4, k5, k6, k7⟩ := hw
  refine lv_iload_n hx hb dX11_readLine_4 rfl (lv_at hl 2 rfl) ?_
  refine lv_iload_n hx hb dX11_readLine_5 rfl (lv_at hl 1 rfl) ?_
  refine lv_if_eq (tgt := 14) hx hb dX11_readLine_6 (by decide) (fun _ => ?_) (fun c9 => absurd (by decide) c9)
  refine lv_bipush (v := 12) hx hb dX11_readLine_14 (by decide) ?_
  refine k_join (hd := 45) (cells2 := 0) (slots2 := 0) (fun (u : (Nat → Int32) × Int32 × Int32 × Int32 × Int32) => match u with | (g36, y37, y38, y39, y40) => []) (fun (u : (Nat → Int32) × Int32 × Int32 × Int32 × Int32) (H : Heap) (locs : List Loc) (ls : Array Slot) => match u with | (g36, y37, y38, y39, y40) => (F_r_readLine0 po.toInt en.toInt de.toInt sp.toInt (gT fw) (gT ft) n.toInt = F_r_readLine0_j1 (gT g36) y37.toInt y38.toInt y39.toInt y40.toInt) ∧ wB g36 ∧ wL g36 ∧ wW g36 ∧ Rg y37 0 400 ∧ Rg y38 0 400 ∧ Rg y40 0 400 ∧ va_P D vwCl [(aw, kcI cI 2179 g36), (h, oX11 th aw ai ab ac hi re aP ta y37 en y38 y39 fa a5 y40 av an ak ne aW aC ag aT aN aF), (aP, .inl (cB, 400, .inl ft))] H ∧ va_D A [(aw, kcI cI 2179 g36), (h, oX11 th aw ai ab ac hi re aP ta y37 en y38 y39 fa a5 y40 av an ak ne aW aC ag aT aN aF), (aP, .inl (cB, 400, .inl ft))] ∧ va_S A s.heap H locs ∧ lv_has ls 3 [(0, .ref h), (1, .int 0), (2, .int n)]) (fun u H locs ls hI => ?_) (fun hJ45 => ?_)
  · skip
    clear hP hD hS hl
    obtain ⟨g36, y37, y38, y39, y40⟩ := u
    obtain ⟨hF1, hg36_0, hg36_1, hg36_2, hy37, hy38, hy40, hP, hD, hS, hl⟩ := hI
    have hP : va_P D vwCl [(aw, kcI cI 2179 g36), (h, oX11 th aw ai ab ac hi re aP ta y37 en y38 y39 fa a5 y40 av an ak ne aW aC ag aT aN aF), (aP, .inl (cB, 400, .inl ft))] H := hP
    have hD : va_D A [(aw, kcI cI 2179 g36), (h, oX11 th aw ai ab ac hi re aP ta y37 en y38 y39 fa a5 y40 av an ak ne aW aC ag aT aN aF), (aP, .inl (cB, 400, .inl ft))] := hD
    have hl : lv_has ls 3 [(0, .ref h), (1, .int 0), (2, .int n)] := hl
    refine lv_iconst (v := 0) hx hb dX11_readLine_45 (by decide) ?_
    have hP9 := hP.sub (ws' := [(h, oX11 th aw ai ab ac hi re aP ta y37 en y38 y39 fa a5 y40 av an ak ne aW aC ag aT aN aF), (aw, kcI cI 2179 g36), (aP, .inl (cB, 400, .inl ft))]) [1, 0, 2] rfl
    have hD9 := hD.sub (ws' := [(h, oX11 th aw ai ab ac hi re aP ta y37 en y38 y39 fa a5 y40 av an ak ne aW aC ag aT aN aF), (aw, kcI cI 2179 g36), (aP, .inl (cB, 400, .inl ft))]) [1, 0, 2] (by decide) rfl
    exact W.zret (v := 0) hx hb hr (by decide) (fun t ht hW => ⟨⟨0, (y37, y38, y39, y40, g36), rfl, ⟨hy37, hy38, hy40, hg36_0, hg36_1, hg36_2, (hF1.trans rfl), (Or.inl rfl)⟩, by rw [ht]; exact hP9, va_K.moved hW.alike hK, hD9⟩, hS.F ht⟩) hS.2.2 dX11_readLine_46
  refine lv_icmp_ge (tgt := 45) hx hb dX11_readLine_16 (by decide) (fun c41 => ?_) (fun c41 => ?_)
  · skip
    have k42 : Rg n 12 65535 := rg_e2 (leI c41) (rg_lit (n := 12) (by decide)) H_n (by decide)
    exact hJ45 (fw, x1, x2, de, sp) _ _ _ ⟨(kC_eq k7 (kif_t (leI c41) rfl)), H_fw_B, H_fw_L, H_fw_W, k3, k4, H_sp, hP.sub (ws' := [(aw, kcI cI 2179 fw), (h, oX11 th aw ai ab ac hi re aP ta x1 en x2 de fa a5 sp av an ak ne aW aC ag aT aN aF), (aP, .inl (cB, 400, .inl ft))]) [0, 1, 2] rfl, hD.sub (ws' := [(aw, kcI cI 2179 fw), (h, oX11 th aw ai ab ac hi re aP ta x1 en x2 de fa a5 sp av an ak ne aW aC ag aT aN aF), (aP, .inl (cB, 400, .inl ft))]) [0, 1, 2] (by decide) rfl, hS, lv_sub (l' := [(0, .ref h), (1, .int 0), (2, .int n)]) hl [0, 1, 2] rfl⟩
  · skip
    have k43 : Rg n 0 11 := rg_l1 (nleI c41) H_n (rg_lit (n := 12) (by decide)) (by decide)
    refine lv_iload_n hx hb dX11_readLine_19 rfl (lv_at hl 1 rfl) ?_
    refine lv_if_eq (tgt := 33) hx hb dX11_readLine_20 (by decide) (fun _ => ?_) (fun c62 => absurd (by decide) c62)
    refine lv_aload_n hx hb dX11_readLine_33 rfl (lv_at hl 0 rfl) ?_
    refine lv_iload_n hx hb dX11_readLine_34 rfl (lv_at hl 2 rfl) ?_
    have k63 : (sp : Int32).toInt ≤ (x2 : Int32).toInt := (by have q0 := H_SQ; have q1 := k5; have q3 := k6; have q4 := (nleI c41); have q5 : (0 : Int32).toInt = 0 := (by decide); have q6 : (1 : Int32).toInt = 1 := (by decide); have q7 : (12 : Int32).toInt = 12 := (by decide); unfold Rg at *; omega)
    refine kcalli (wc := [(h, oX11 th aw ai ab ac hi re aP ta x1 en x2 de fa a5 sp av an ak ne aW aC ag aT aN aF), (aw, kcI cI 2179 fw), (aP, .inl (cB, 400, .inl ft))]) (wr := []) hP hD hS hA [1, 0, 2] [] rfl rfl (by decide) (by decide) (by decide) (fun hPc hDc hFc => va_runV (As := [.int n]) (rest := []) ⟨hx, hb, hml, hown, hts⟩ (r_readLawLine l D cI cJ cB cC h th aw ai ab ac hi re aP ta x1 en x2 de fa a5 sp av an ak ne aW aC ag aT aN aF fw ft n H.size k3 H_en k4 H_sp k43 H_fw_W H_fw_B H_fw_L k63) (cwV 1 hts gX11_readLine_X11_readLawLine rfl rfl rfl ⟨rfl, hdX11_readLawLine⟩ ⟨Nat.le_of_ble_eq_true rfl, Nat.le_of_ble_eq_true rfl⟩) ⟨kBlind, va_recv hK hPc (ci := 10) (q0 := 0) rfl rfl, fun U hU hW => ⟨rfl, by rw [hU], hN.warm hW, hE.pass hS hFc hW hU, by rw [hU]; exact hPc, va_K.moved hW.alike hK, hDc⟩⟩ rfl rfl hl.1 rfl (lv_room (Nat.le_of_ble_eq_true rfl)) dX11_readLine_35 ⟨Nat.le_of_ble_eq_true rfl, Nat.le_of_ble_eq_true rfl⟩) (fun r64 u H locs hw hP hD hS => ?_)
    obtain ⟨x65, x66, x67, x68, g69⟩ := u
    have hP : va_P D vwCl [(h, oX11 th aw ai ab ac hi re aP ta x65 en x66 x67 fa a5 x68 av an ak ne aW aC ag aT aN aF), (aw, kcI cI 2179 g69), (aP, .inl (cB, 400, .inl ft))] H := hP
    have hD : va_D A [(h, oX11 th aw ai ab ac hi re aP ta x65 en x66 x67 fa a5 x68 av an ak ne aW aC ag aT aN aF), (aw, kcI cI 2179 g69), (aP, .inl (cB, 400, .inl ft))] := hD
    obtain ⟨k70, k71, k72, k73, k74, k75, k76, hw⟩ := hw
    rcases hw with rfl | ⟨rfl, kc77_0, kc77_1⟩
    · skip
      refine lv_if_eq (tgt := 45) hx hb dX11_readLine_38 (by decide) (fun _ => ?_) (fun c78 => absurd (by decide) c78)
      exact hJ45 (g69, x65, x66, x67, x68) _ _ _ ⟨(kC_eq k7 (kif_f (xF_le c41) (kC_eq k76 (kC_eq rfl (kC_eq rfl (kC_eq rfl (kC_eq rfl (kif_t rfl rfl)))))))), k73, k74, k75, k70, k71, k72, hP.sub (ws' := [(aw, kcI cI 2179 g69), (h, oX11 th aw ai ab ac hi re aP ta x65 en x66 x67 fa a5 x68 av an ak ne aW aC ag aT aN aF), (aP, .inl (cB, 400, .inl ft))]) [1, 0, 2] rfl, hD.sub (ws' := [(aw, kcI cI 2179 g69), (h, oX11 th aw ai ab ac hi re aP ta x65 en x66 x67 fa a5 x68 av an ak ne aW aC ag aT aN aF), (aP, .inl (cB, 400, .inl ft))]) [1, 0, 2] (by decide) rfl, hS, lv_sub (l' := [(0, .ref h), (1, .int 0), (2, .int n)]) hl [0, 1, 2] rfl⟩
    · skip
      refine lv_if_eq (tgt := 45) hx hb dX11_readLine_38 (by decide) (fun c79 => absurd c79 (by decide)) (fun _ => ?_)
      refine lv_iconst (v := 1) hx hb dX11_readLine_41 (by decide) ?_
      refine lv_goto (tgt := 46) hx hb dX11_readLine_42 (by decide) ?_
      have hP9 := hP.sub (ws' := [(h, oX11 th aw ai ab ac hi re aP ta x65 en x66 x67 fa a5 x68 av an ak ne aW aC ag aT aN aF), (aw, kcI cI 2179 g69), (aP, .inl (cB, 400, .inl ft))]) [0, 1, 2] rfl
      have hD9 := hD.sub (ws' := [(h, oX11 th aw ai ab ac hi re aP ta x65 en x66 x67 fa a5 x68 av an ak ne aW aC ag aT aN aF), (aw, kcI cI 2179 g69), (aP, .inl (cB, 400, .inl ft))]) [0, 1, 2] (by decide) rfl
      exact W.zret (v := 1) hx hb hr (by decide) (fun t ht hW => ⟨⟨1, (x65, x66, x67, x68, g69), rfl, ⟨k70, k71, k72, k73, k74, k75, (kC_eq k7 (kif_f (xF_le c41) (kC_eq k76 (kC_eq rfl (kC_eq rfl (kC_eq rfl (kC_eq rfl (kif_f (by decide) rfl)))))))), (Or.inr ⟨rfl, k43, kc77_0, (by have q0 := H_SQ; have q1 := k5; have q3 := k6; have q4 := (nleI c41); have q5 := k63; have q7 := kc77_1; have q8 := k72; have q9 := k70; have q10 : (0 : Int32).toInt = 0 := (by decide); have q11 : (1 : Int32).toInt = 1 := (by decide); have q12 : (12 : Int32).toInt = 12 := (by decide); unfold Rg at *; omega)⟩)⟩, by rw [ht]; exact hP9, va_K.moved hW.alike hK, hD9⟩, hS.F ht⟩) hS.2.2 dX11_readLine_46

def kwX11_readAll : List Cond := .code yX11_readAll cX11_readAll 3 (some .int) :: kG
theorem hdX11_readAll : yX11_readAll.cls ≠ "java/lang/invoke/MethodHandle" ∧ yX11_readAll.cls ≠ "java/lang/invoke/VarHandle" ∧ (parseMethodDescriptor yX11_readAll.desc).map (fun d => d.parameters.length) = some 1 := by decide +kernel
theorem gX11_readAll_X11_blanks : GoodIn kG (wsV RX11 99 RX11 yX11_blanks kwX11_blanks) := gK w18_11 (gK w18_12 (gK w18_13 (gK w0_5 (gK w18_14 gGG))))
theorem gX11_readAll_X11_isAt : GoodIn kG (wsV RX11 92 RX11 yX11_isAt kwX11_isAt) := gK w18_15 (gK w18_16 (gK w18_17 (gK w0_5 (gK w18_18 gGG))))
theorem gX11_readAll_X11_readLine : GoodIn kG (wsV RX11 250 RX11 yX11_readLine kwX11_readLine) := gK w18_19 (gK w18_20 (gK w18_21 (gK w0_5 (gK w18_22 gGG))))
theorem gX11_readAll_X11_uses : GoodIn kG (wsV RX11 247 RX11 yX11_uses kwX11_uses) := gK w18_7 (gK w18_8 (gK w18_9 (gK w0_5 (gK w18_10 gGG))))
theorem dX11_readAll_0 : decode cX11_readAll 0 = .ok (.aload_n 0, 1) := by decide +kernel
theorem dX11_readAll_1 : decode cX11_readAll 1 = .ok (.invokevirtual 247, 3) := by decide +kernel
theorem dX11_readAll_4 : decode cX11_readAll 4 = .ok (.aload_n 0, 1) := by decide +kernel
theorem dX11_readAll_5 : decode cX11_readAll 5 = .ok (.iconst 0, 1) := by decide +kernel
theorem dX11_readAll_6 : decode cX11_readAll 6 = .ok (.putfield 181, 3) := by decide +kernel
theorem dX11_readAll_9 : decode cX11_readAll 9 = .ok (.aload_n 0, 1) := by decide +kernel
theorem dX11_readAll_10 : decode cX11_readAll 10 = .ok (.invokevirtual 99, 3) := by decide +kernel
theorem dX11_readAll_13 : decode cX11_readAll 13 = .ok (.aload_n 0, 1) := by decide +kernel
theorem dX11_readAll_14 : decode cX11_readAll 14 = .ok (.getfield 86, 3) := by decide +kernel
theorem dX11_readAll_17 : decode cX11_readAll 17 = .ok (.aload_n 0, 1) := by decide +kernel
theorem dX11_readAll_18 : decode cX11_readAll 18 = .ok (.getfield 89, 3) := by decide +kernel
theorem dX11_readAll_21 : decode cX11_readAll 21 = .ok (.if_icmp .ne 5, 3) := by decide +kernel
theorem dX11_readAll_24 : decode cX11_readAll 24 = .ok (.iconst 0, 1) := by decide +kernel
theorem dX11_readAll_25 : decode cX11_readAll 25 = .ok (.ireturn, 1) := by decide +kernel
theorem dX11_readAll_26 : decode cX11_readAll 26 = .ok (.iconst 0, 1) := by decide +kernel
theorem dX11_readAll_27 : decode cX11_readAll 27 = .ok (.istore_n 2, 1) := by decide +kernel
theorem dX11_readAll_28 : decode cX11_readAll 28 = .ok (.aload_n 0, 1) := by decide +kernel
theorem dX11_readAll_29 : decode cX11_readAll 29 = .ok (.iload_n 1, 1) := by decide +kernel
theorem dX11_readAll_30 : decode cX11_readAll 30 = .ok (.iload_n 2, 1) := by decide +kernel
theorem dX11_readAll_31 : decode cX11_readAll 31 = .ok (.invokevirtual 250, 3) := by decide +kernel
theorem dX11_readAll_34 : decode cX11_readAll 34 = .ok (.ifCond .ne 5, 3) := by decide +kernel
theorem dX11_readAll_37 : decode cX11_readAll 37 = .ok (.iconst (-1), 1) := by decide +kernel
theorem dX11_readAll_38 : decode cX11_readAll 38 = .ok (.ireturn, 1) := by decide +kernel
theorem dX11_readAll_39 : decode cX11_readAll 39 = .ok (.aload_n 0, 1) := by decide +kernel
theorem dX11_readAll_40 : decode cX11_readAll 40 = .ok (.invokevirtual 99, 3) := by decide +kernel
theorem dX11_readAll_43 : decode cX11_readAll 43 = .ok (.aload_n 0, 1) := by decide +kernel
theorem dX11_readAll_44 : decode cX11_readAll 44 = .ok (.getfield 86, 3) := by decide +kernel
theorem dX11_readAll_47 : decode cX11_readAll 47 = .ok (.aload_n 0, 1) := by decide +kernel
theorem dX11_readAll_48 : decode cX11_readAll 48 = .ok (.getfield 89, 3) := by decide +kernel
theorem dX11_readAll_51 : decode cX11_readAll 51 = .ok (.if_icmp .ne 7, 3) := by decide +kernel
theorem dX11_readAll_54 : decode cX11_readAll 54 = .ok (.iload_n 2, 1) := by decide +kernel
theorem dX11_readAll_55 : decode cX11_readAll 55 = .ok (.iconst 1, 1) := by decide +kernel
theorem dX11_readAll_56 : decode cX11_readAll 56 = .ok (.iadd, 1) := by decide +kernel
theorem dX11_readAll_57 : decode cX11_readAll 57 = .ok (.ireturn, 1) := by decide +kernel
theorem dX11_readAll_58 : decode cX11_readAll 58 = .ok (.aload_n 0, 1) := by decide +kernel
theorem dX11_readAll_59 : decode cX11_readAll 59 = .ok (.bipush 59, 2) := by decide +kernel
theorem dX11_readAll_61 : decode cX11_readAll 61 = .ok (.bipush 59, 2) := by decide +kernel
theorem dX11_readAll_63 : decode cX11_readAll 63 = .ok (.invokevirtual 92, 3) := by decide +kernel
theorem dX11_readAll_66 : decode cX11_readAll 66 = .ok (.ifCond .ne 5, 3) := by decide +kernel
theorem dX11_readAll_69 : decode cX11_readAll 69 = .ok (.iconst (-1), 1) := by decide +kernel
theorem dX11_readAll_70 : decode cX11_readAll 70 = .ok (.ireturn, 1) := by decide +kernel
theorem dX11_readAll_71 : decode cX11_readAll 71 = .ok (.aload_n 0, 1) := by decide +kernel
theorem dX11_readAll_72 : decode cX11_readAll 72 = .ok (.dup, 1) := by decide +kernel
theorem dX11_readAll_73 : decode cX11_readAll 73 = .ok (.getfield 86, 3) := by decide +kernel
theorem dX11_readAll_76 : decode cX11_readAll 76 = .ok (.iconst 1, 1) := by decide +kernel
theorem dX11_readAll_77 : decode cX11_readAll 77 = .ok (.iadd, 1) := by decide +kernel
theorem dX11_readAll_78 : decode cX11_readAll 78 = .ok (.putfield 86, 3) := by decide +kernel
theorem dX11_readAll_81 : decode cX11_readAll 81 = .ok (.iinc 2 1, 3) := by decide +kernel
theorem dX11_readAll_84 : decode cX11_readAll 84 = .ok (.goto (-56), 3) := by decide +kernel
set_option maxHeartbeats 4000000 in
set_option maxRecDepth 100000 in
/-- reference: readAll -/
theorem r_readAll0 (l : Launch) (D : va_G) (cI cJ cB cC : ClassId) (h : Nat) (th : Int32) (aw : Nat) (ai : Nat) (ab : Nat) (ac : Nat) (hi : Int32) (re : Int32) (aP : Nat) (ta : Int32) (po : Int32) (en : Int32) (be : Int32) (de : Int32) (fa : Int32) (a5 : Nat) (sp : Int32) (av : Nat) (an : Nat) (ak : Nat) (ne : Int32) (aW : Nat) (aC : Nat) (ag : Nat) (aT : Nat) (aN : Nat) (aF : Nat) (fw : Nat → Int32) (ft : Nat → Int32) (sz : Nat) (H_ta : Rg ta 0 400) (H_fw_W : wW fw) (H_fw_B : wB fw) (H_fw_L : wL fw) : Met l yX11_readAll kwX11_readAll ({ frames := 30, cells := 0, slots := 0, locals := 621 } : Room) (kPre D (kT cI cJ cB cC) sz [(h, oX11 th aw ai ab ac hi re aP ta po en be de fa a5 sp av an ak ne aW aC ag aT aN aF), (aw, kcI cI 2179 fw), (aP, .inl (cB, 400, .inl ft))] [.ref h, .int 0]) (va_Qi (fun (r : Int32) (uu : Int32 × Int32 × Int32 × Int32 × (Nat → Int32)) => match uu with | (n0_, n1_, n2_, n3_, f4_) => Rg n0_ 0 400 ∧ Rg n1_ 0 400 ∧ Rg n3_ 0 400 ∧ wB f4_ ∧ wL f4_ ∧ wW f4_ ∧ Rg r (-1) 12 ∧ (((r : Int32).toInt < 0 ∨ wD f4_ (cN r) (cN n3_))) ∧ F_r_readAll0 (ta : Int32).toInt (de : Int32).toInt (gT fw) (gT ft) = ((r : Int32).toInt, (n0_ : Int32).toInt, (n1_ : Int32).toInt, (n2_ : Int32).toInt, (n3_ : Int32).toInt, (gT f4_))) (fun (uu : Int32 × Int32 × Int32 × Int32 × (Nat → Int32)) (t : State) => match uu with | (n0_, n1_, n2_, n3_, f4_) => kB D (kT cI cJ cB cC) (va_A [(h, oX11 th aw ai ab ac hi re aP ta po en be de fa a5 sp av an ak ne aW aC ag aT aN aF), (aw, kcI cI 2179 fw), (aP, .inl (cB, 400, .inl ft))] sz) [(h, oX11 0 aw ai ab ac hi re aP 0 n0_ ta n1_ n2_ fa a5 n3_ av an ak ne aW aC ag aT aN aF), (aw, kcI cI 2179 f4_), (aP, .inl (cB, 400, .inl ft))] t) (va_A [(h, oX11 th aw ai ab ac hi re aP ta po en be de fa a5 sp av an ak ne aW aC ag aT aN aF), (aw, kcI cI 2179 fw), (aP, .inl (cB, 400, .inl ft))] sz)) 0 0 (va_A [(h, oX11 th aw ai ab ac hi re aP ta po en be de fa a5 sp av an ak ne aW aC ag aT aN aF), (aw, kcI cI 2179 fw), (aP, .inl (cB, 400, .inl ft))] sz) := by
  refine Met.ofW (cc := cX11_readAll) (maxL := 3) (ret := (some .int)) (by decide) rfl ?_
  intro p e s m args below meth c s₁ B hml hv
  obtain ⟨rfl, hsz, hN, hE, hP, hK, hD0⟩ := hv
  have hx := B.exec
  have hb := B.bytes
  have hr := B.returns
  have hts := fun (w : Cond) (h : w ∈ kG) => atoms_spec (ws := kwX11_readAll) B.pre w (List.mem_cons_of_mem _ h)
  have hown : s.vm.findClass RX11 = some m.cls := findClass_of_methodNamed B.named
  subst hsz
  have hD := hD0.self (sz := s.heap.size)
  generalize hAe : va_A [(h, oX11 th aw ai ab ac hi re aP ta po en be de fa a5 sp av an ak ne aW aC ag aT aN aF), (aw, kcI cI 2179 fw), (aP, .inl (cB, 400, .inl ft))] s.heap.size = A at hD hE ⊢
  have hA : ∀ q : Nat, s.heap.size ≤ q → A q := fun q h => by rw [← hAe]; exact Or.inr h
  have hl := lv_entry ([.ref h, .int 0]) (n := 3) (Nat.le_of_ble_eq_true rfl)
  rw [lg_entry_eq]
  generalize (lg_sl ([.ref h, .int 0]) ++ List.replicate (3 - (lg_sl ([.ref h, .int 0])).length) Slot.unset).toArray = ls at hl ⊢
  have hl : lv_has ls 3 [(0, .ref h), (1, .int 0)] := hl
  obtain ⟨H, hH0⟩ : ∃ H, H = s.heap := ⟨_, rfl⟩
  have hS : va_S A s.heap H [] := by rw [hH0]; exact va_S.rf
  have hP : va_P D vwCl [(h, oX11 th aw ai ab ac hi re aP ta po en be de fa a5 sp av an ak ne aW aC ag aT aN aF), (aw, kcI cI 2179 fw), (aP, .inl (cB, 400, .inl ft))] H := by rw [hH0]; exact hP
  refine kHeap hH0 ?_
  clear hH0
  refine lv_aload_n hx hb dX11_readAll_0 rfl (lv_at hl 0 rfl) ?_
  refine kcallv (wc := [(h, oX11 th aw ai ab ac hi re aP ta po en be de fa a5 sp av an ak ne aW aC ag aT aN aF)]) (wr := [(aw, kcI cI 2179 fw), (aP, .inl (cB, 400, .inl ft))]) hP hD hS hA [0] [1, 2] rfl rfl (by decide) (by decide) (by decide) (fun hPc hDc hFc => va_runV (As := []) (rest := []) ⟨hx, hb, hml, hown, hts⟩ (r_uses l D cI cJ cB cC h th aw ai ab ac hi re aP ta po en be de fa a5 sp av an ak ne aW aC ag aT aN aF H.size H_ta) (cwV 0 hts gX11_readAll_X11_uses rfl rfl rfl ⟨rfl, hdX11_uses⟩ ⟨Nat.le_of_ble_eq_true rfl, Nat.le_of_ble_eq_true rfl⟩) ⟨kBlind, va_recv hK hPc (ci := 10) (q0 := 0) rfl rfl, fun U hU hW => ⟨rfl, by rw [hU], hN.warm hW, hE.pass hS hFc hW hU, by rw [hU]; exact hPc, va_K.moved hW.alike hK, hDc⟩⟩ rfl rfl hl.1 rfl (lv_room (Nat.le_of_ble_eq_true rfl)) dX11_readAll_1 ⟨Nat.le_of_ble_eq_true rfl, Nat.le_of_ble_eq_true rfl⟩) (fun u H locs hw hP hD hS => ?_)
  have hP : va_P D vwCl [(aw, kcI cI 2179 fw), (aP, .inl (cB, 400, .inl ft)), (h, oX11 0 aw ai ab ac hi re aP 0 0 ta be de fa a5 sp av an ak ne aW aC ag aT aN aF)] H := hP
  have hD : va_D A [(aw, kcI cI 2179 fw), (aP, .inl (cB, 400, .inl ft)), (h, oX11 0 aw ai ab ac hi re aP 0 0 ta be de fa a5 sp av an ak ne aW aC ag aT aN aF)] := hD
  refine lv_aload_n hx hb dX11_readAll_4 rfl (lv_at hl 0 rfl) ?_
  refine lv_iconst (v := 0) hx hb dX11_readAll_5 (by decide) ?_
  refine va_put (D := D) (ci := 10) (v := .int 0) (ty := .int) (C := RX11) (T := TX11) (N := 26) hx hb hts iG_X11 tyX11 tyX11_ok nmX11 hown hK hP hD hS 2 rfl rfl 15 (by decide) (hts _ w18_4) (fun _ h9 => h9) rfl (by decide +kernel) rfl rfl (Nat.le_of_ble_eq_true rfl) dX11_readAll_6 (fun H locs hP hD hS => ?_)
  have hP : va_P D vwCl [(aw, kcI cI 2179 fw), (aP, .inl (cB, 400, .inl ft)), (h, oX11 0 aw ai ab ac hi re aP 0 0 ta be de fa a5 0 av an ak ne aW aC ag aT aN aF)] H := hP
  have hD : va_D A [(aw, kcI cI 2179 fw), (aP, .inl (cB, 400, .inl ft)), (h, oX11 0 aw ai ab ac hi re aP 0 0 ta be de fa a5 0 av an ak ne aW aC ag aT aN aF)] := hD
  refine lv_aload_n hx hb dX11_readAll_9 rfl (lv_at hl 0 rfl) ?_
  refine kcallv (wc := [(h, oX11 0 aw ai ab ac hi re aP 0 0 ta be de fa a5 0 av an ak ne aW aC ag aT aN aF), (aP, .inl (cB, 400, .inl ft))]) (wr := [(aw, kcI cI 2179 fw)]) hP hD hS hA [2, 1] [0] rfl rfl (by decide) (by decide) (by decide) (fun hPc hDc hFc => va_runV (As := []) (rest := []) ⟨hx, hb, hml, hown, hts⟩ (r_blanks l D cI cJ cB cC h 0 aw ai ab ac hi re aP 0 0 ta be de fa a5 0 av an ak ne aW aC ag aT aN aF ft H.size (rg_w (rg_lit (n := 0) (by decide)) (by decide)) H_ta) (cwV 0 hts gX11_readAll_X11_blanks rfl rfl rfl ⟨rfl, hdX11_blanks⟩ ⟨Nat.le_of_ble_eq_true rfl, Nat.le_of_ble_eq_true rfl⟩) ⟨kBlind, va_recv hK hPc (ci := 10) (q0 := 0) rfl rfl, fun U hU hW => ⟨rfl, by rw [hU], hN.warm hW, hE.pass hS hFc hW hU, by rw [hU]; exact hPc, va_K.moved hW.alike hK, hDc⟩⟩ rfl rfl hl.1 rfl (lv_room (Nat.le_of_ble_eq_true rfl)) dX11_readAll_10 ⟨Nat.le_of_ble_eq_true rfl, Nat.le_of_ble_eq_true rfl⟩) (fun u H locs hw hP hD hS => ?_)
  obtain ⟨x1, x2⟩ := u
  have hP : va_P D vwCl [(aw, kcI cI 2179 fw), (h, oX11 0 aw ai ab ac hi re aP 0 x1 ta x2 de fa a5 0 av an ak ne aW aC ag aT aN aF), (aP, .inl (cB, 400, .inl ft))] H := hP
  have hD : va_D A [(aw, kcI cI 2179 fw), (h, oX11 0 aw ai ab ac hi re aP 0 x1 ta x2 de fa a5 0 av an ak ne aW aC ag aT aN aF), (aP, .inl (cB, 400, .inl ft))] := hD
  obtain ⟨k3, k4, k5, k6, k7⟩ := hw
  refine lv_aload_n hx hb dX11_readAll_13 rfl (lv_at hl 0 rfl) ?_
  refine va_get (D := D) (ci := 10) (v := .int x1) (C := RX11) (T := TX11) (N := 26) hx hb hts iG_X11 hown hK hP 1 rfl rfl 9 (by decide) (hts _ w18_5) (fun _ h9 => h9) rfl dX11_readAll_14 ?_
  refine lv_aload_n hx hb dX11_readAll_17 rfl (lv_at hl 0 rfl) ?_
  refine va_get (D := D) (ci := 10) (v := .int ta) (C := RX11) (T := TX11) (N := 26) hx hb hts iG_X11 hown hK hP 1 rfl rfl 10 (by decide) (hts _ w18_6) (fun _ h9 => h9) rfl dX11_readAll_18 ?_
  refine lv_icmp_ne (tgt := 26) hx hb dX11_readAll_21 (by decide) (fun c8 => ?_) (fun c8 => ?_)
  · skip
    refine lv_iconst (v := 0) hx hb dX11_readAll_26 (by decide) ?_
    refine lv_istore_n (lv' := [(2, .int 0), (0, .ref h), (1, .int 0)]) hx hb dX11_readAll_27 rfl hl (by decide) rfl (fun ls hl => ?_)
    refine k_loop (hd := 28) (fun (u : Int32 × (Nat → Int32) × Int32 × Int32 × Int32 × Int32) => match u with | (y625, g626, y627, y628, y629, y630) => (12 - (y625).toInt).toNat) (fun (u : Int32 × (Nat → Int32) × Int32 × Int32 × Int32 × Int32) (H : Heap) (locs : List Loc) (ls : Array Slot) => match u with | (y625, g626, y627, y628, y629, y630) => (wD g626 (cN y625) (cN y630)) ∧ ((y630 : Int32).toInt ≤ (y627 : Int32).toInt) ∧ (F_r_readAll0 ta.toInt de.toInt (gT fw) (gT ft) = F_r_readAll0_l1 ta.toInt (gT ft) (y625.toInt, (gT g626), y627.toInt, y628.toInt, y629.toInt, y630.toInt)) ∧ Rg y625 0 12 ∧ wB g626 ∧ wL g626 ∧ wW g626 ∧ Rg y627 0 400 ∧ Rg y628 0 400 ∧ Rg y630 0 400 ∧ va_P D vwCl [(aw, kcI cI 2179 g626), (h, oX11 0 aw ai ab ac hi re aP 0 y627 ta y628 y629 fa a5 y630 av an ak ne aW aC ag aT aN aF), (aP, .inl (cB, 400, .inl ft))] H ∧ va_D A [(aw, kcI cI 2179 g626), (h, oX11 0 aw ai ab ac hi re aP 0 y627 ta y628 y629 fa a5 y630 av an ak ne aW aC ag aT aN aF), (aP, .inl (cB, 400, .inl ft))] ∧ va_S A s.heap H locs ∧ lv_has ls 3 [(2, .int y625), (0, .ref h), (1, .int 0)]) ((0 : Int32), fw, x1, x2, de, (0 : Int32)) ⟨(wD_0 _ _), (by have q0 := k5; have q2 := congrArg Int32.toInt k6; have q3 := neI c8; have q4 := neI (Ne.symm c8); have q5 := k3; have q6 : (0 : Int32).toInt = 0 := (by decide); have q7 : (1 : Int32).toInt = 1 := (by decide); unfold Rg at *; omega), (kC_eq k7 (kif_f (neI c8) rfl)), (rg_w (rg_lit (n := 0) (by decide)) (by decide)), H_fw_B, H_fw_L, H_fw_W, k3, k4, (rg_w (rg_lit (n := 0) (by decide)) (by decide)), hP.sub (ws' := [(aw, kcI cI 2179 fw), (h, oX11 0 aw ai ab ac hi re aP 0 x1 ta x2 de fa a5 0 av an ak ne aW aC ag aT aN aF), (aP, .inl (cB, 400, .inl ft))]) [0, 1, 2] rfl, hD.sub (ws' := [(aw, kcI cI 2179 fw), (h, oX11 0 aw ai ab ac hi re aP 0 x1 ta x2 de fa a5 0 av an ak ne aW aC ag aT aN aF), (aP, .inl (cB, 400, .inl ft))]) [0, 1, 2] (by decide) rfl, hS, lv_sub (l' := [(2, .int 0), (0, .ref h), (1, .int 0)]) hl [0, 1, 2] rfl⟩ (fun u H locs ls hI ih631 => ?_)
    clear hP hD hS hl
    obtain ⟨y625, g626, y627, y628, y629, y630⟩ := u
    obtain ⟨hX28_0, hX28_1, hF1, hy625, hg626_0, hg626_1, hg626_2, hy627, hy628, hy630, hP, hD, hS, hl⟩ := hI
    have hP : va_P D vwCl [(aw, kcI cI 2179 g626), (h, oX11 0 aw ai ab ac hi re aP 0 y627 ta y628 y629 fa a5 y630 av an ak ne aW aC ag aT aN aF), (aP, .inl (cB, 400, .inl ft))] H := hP
    have hD : va_D A [(aw, kcI cI 2179 g626), (h, oX11 0 aw ai ab ac hi re aP 0 y627 ta y628 y629 fa a5 y630 av an ak ne aW aC ag aT aN aF), (aP, .inl (cB, 400, .inl ft))] := hD
    have hl : lv_has ls 3 [(2, .int y625), (0, .ref h), (1, .int 0)] := hl
    refine lv_aload_n hx hb dX11_readAll_28 rfl (lv_at hl 1 rfl) ?_
    refine lv_iload_n hx hb dX11_readAll_29 rfl (lv_at hl 2 rfl) ?_
    refine lv_iload_n hx hb dX11_readAll_30 rfl (lv_at hl 0 rfl) ?_
    refine kcalli (wc := [(h, oX11 0 aw ai ab ac hi re aP 0 y627 ta y628 y629 fa a5 y630 av an ak ne aW aC ag aT aN aF), (aw, kcI cI 2179 g626), (aP, .inl (cB, 400, .inl ft))]) (wr := []) hP hD hS hA [1, 0, 2] [] rfl rfl (by decide) (by decide) (by decide) (fun hPc hDc hFc => va_runV (As := [.int 0, .int y625]) (rest := []) ⟨hx, hb, hml, hown, hts⟩ (r_readLine0 l D cI cJ cB cC h 0 aw ai ab ac hi re aP 0 y627 ta y628 y629 fa a5 y630 av an ak ne aW aC ag aT aN aF g626 ft y625 H.size hy627 H_ta hy630 (rg_w hy625 (by decide)) hg626_2 hg626_0 hg626_1 hX28_1) (cwV 2 hts gX11_readAll_X11_readLine rfl rfl rfl ⟨rfl, hdX11_readLine⟩ ⟨Nat.le_of_ble_eq_true rfl, Nat.le_of_ble_eq_true rfl⟩) ⟨kBlind, va_recv hK hPc (ci := 10) (q0 := 0) rfl rfl, fun U hU hW => ⟨rfl, by rw [hU], hN.warm hW, hE.pass hS hFc hW hU, by rw [hU]; exact hPc, va_K.moved hW.alike hK, hDc⟩⟩ rfl rfl hl.1 rfl (lv_room (Nat.le_of_ble_eq_true rfl)) dX11_readAll_31 ⟨Nat.le_of_ble_eq_true rfl, Nat.le_of_ble_eq_true rfl⟩) (fun r632 u H locs hw hP hD hS => ?_)
    obtain ⟨x633, x634, x635, x636, g637⟩ := u
    have hP : va_P D vwCl [(h, oX11 0 aw ai ab ac hi re aP 0 x633 ta x634 x635 fa a5 x636 av an ak ne aW aC ag aT aN aF), (aw, kcI cI 2179 g637), (aP, .inl (cB, 400, .inl ft))] H := hP
    have hD : va_D A [(h, oX11 0 aw ai ab ac hi re aP 0 x633 ta x634 x635 fa a5 x636 av an ak ne aW aC ag aT aN aF), (aw, kcI cI 2179 g637), (aP, .inl (cB, 400, .inl ft))] := hD
    obtain ⟨k638, k639, k640, k641, k642, k643, k644, hw⟩ := hw
    rcases hw with rfl | ⟨rfl, kc645_0, kc645_1, kc645_2⟩
    · skip
      refine lv_if_ne (tgt := 39) hx hb dX11_readAll_34 (by decide) (fun c646 => absurd (by decide) c646) (fun _ => ?_)
      refine lv_iconst (v := (-1)) hx hb dX11_readAll_37 (by decide) ?_
      have hP9 := hP.sub (ws' := [(h, oX11 0 aw ai ab ac hi re aP 0 x633 ta x634 x635 fa a5 x636 av an ak ne aW aC ag aT aN aF), (aw, kcI cI 2179 g637), (aP, .inl (cB, 400, .inl ft))]) [0, 1, 2] rfl
      have hD9 := hD.sub (ws' := [(h, oX11 0 aw ai ab ac hi re aP 0 x633 ta x634 x635 fa a5 x636 av an ak ne aW aC ag aT aN aF), (aw, kcI cI 2179 g637), (aP, .inl (cB, 400, .inl ft))]) [0, 1, 2] (by decide) rfl
      exact W.iret (v := (-1)) hx hb hr (fun t ht hW => ⟨⟨(-1), (x633, x634, x635, x636, g637), rfl, ⟨k638, k639, k640, k641, k642, k643, (rg_w (rg_lit (n := -1) (by decide)) (by decide)), (Or.inl (by decide)), (hF1.trans (kIter_out (kC_eq rfl (kC_eq rfl (kC_eq rfl (kC_eq rfl (kC_eq rfl (kC_eq k644 (kC_eq rfl (kC_eq rfl (kC_eq rfl (kC_eq rfl (kif_t rfl rfl)))))))))))))⟩, by rw [ht]; exact hP9, va_K.moved hW.alike hK, hD9⟩, hS.F ht⟩) hS.2.2 dX11_readAll_38
    · skip
      refine lv_if_ne (tgt := 39) hx hb dX11_readAll_34 (by decide) (fun _ => ?_) (fun c647 => absurd c647 (by decide))
      refine lv_aload_n hx hb dX11_readAll_39 rfl (lv_at hl 1 rfl) ?_
      refine kcallv (wc := [(h, oX11 0 aw ai ab ac hi re aP 0 x633 ta x634 x635 fa a5 x636 av an ak ne aW aC ag aT aN aF), (aP, .inl (cB, 400, .inl ft))]) (wr := [(aw, kcI cI 2179 g637)]) hP hD hS hA [0, 2] [1] rfl rfl (by decide) (by decide) (by decide) (fun hPc hDc hFc => va_runV (As := []) (rest := []) ⟨hx, hb, hml, hown, hts⟩ (r_blanks l D cI cJ cB cC h 0 aw ai ab ac hi re aP 0 x633 ta x634 x635 fa a5 x636 av an ak ne aW aC ag aT aN aF ft H.size k638 H_ta) (cwV 0 hts gX11_readAll_X11_blanks rfl rfl rfl ⟨rfl, hdX11_blanks⟩ ⟨Nat.le_of_ble_eq_true rfl, Nat.le_of_ble_eq_true rfl⟩) ⟨kBlind, va_recv hK hPc (ci := 10) (q0 := 0) rfl rfl, fun U hU hW => ⟨rfl, by rw [hU], hN.warm hW, hE.pass hS hFc hW hU, by rw [hU]; exact hPc, va_K.moved hW.alike hK, hDc⟩⟩ rfl rfl hl.1 rfl (lv_room (Nat.le_of_ble_eq_true rfl)) dX11_readAll_40 ⟨Nat.le_of_ble_eq_true rfl, Nat.le_of_ble_eq_true rfl⟩) (fun u H locs hw hP hD hS => ?_)
      obtain ⟨x648, x649⟩ := u
      have hP : va_P D vwCl [(aw, kcI cI 2179 g637), (h, oX11 0 aw ai ab ac hi re aP 0 x648 ta x649 x635 fa a5 x636 av an ak ne aW aC ag aT aN aF), (aP, .inl (cB, 400, .inl ft))] H := hP
      have hD : va_D A [(aw, kcI cI 2179 g637), (h, oX11 0 aw ai ab ac hi re aP 0 x648 ta x649 x635 fa a5 x636 av an ak ne aW aC ag aT aN aF), (aP, .inl (cB, 400, .inl ft))] := hD
      obtain ⟨k650, k651, k652, k653, k654⟩ := hw
      refine lv_aload_n hx hb dX11_readAll_43 rfl (lv_at hl 1 rfl) ?_
      refine va_get (D := D) (ci := 10) (v := .int x648) (C := RX11) (T := TX11) (N := 26) hx hb hts iG_X11 hown hK hP 1 rfl rfl 9 (by decide) (hts _ w18_5) (fun _ h9 => h9) rfl dX11_readAll_44 ?_
      refine lv_aload_n hx hb dX11_readAll_47 rfl (lv_at hl 1 rfl) ?_
      refine va_get (D := D) (ci := 10) (v := .int ta) (C := RX11) (T := TX11) (N := 26) hx hb hts iG_X11 hown hK hP 1 rfl rfl 10 (by decide) (hts _ w18_6) (fun _ h9 => h9) rfl dX11_readAll_48 ?_
      refine lv_icmp_ne (tgt := 58) hx hb dX11_readAll_51 (by decide) (fun c655 => ?_) (fun c655 => ?_)
      · skip
        refine lv_aload_n hx hb dX11_readAll_58 rfl (lv_at hl 1 rfl) ?_
        refine lv_bipush (v := 59) hx hb dX11_readAll_59 (by decide) ?_
        refine lv_bipush (v := 59) hx hb dX11_readAll_61 (by decide) ?_
        refine kpurei (wc := [(h, oX11 0 aw ai ab ac hi re aP 0 x648 ta x649 x635 fa a5 x636 av an ak ne aW aC ag aT aN aF), (aP, .inl (cB, 400, .inl ft))]) hP hD hS hA [1, 2] rfl (by decide) (fun hPc hDc hFc => va_runV (As := [.int 59, .int 59]) (rest := []) ⟨hx, hb, hml, hown, hts⟩ (r_isAt l D cI cJ cB cC h 0 aw ai ab ac hi re aP 0 x648 ta x649 x635 fa a5 x636 av an ak ne aW aC ag aT aN aF ft 59 59 H.size k650 H_ta) (cwV 2 hts gX11_readAll_X11_isAt rfl rfl rfl ⟨rfl, hdX11_isAt⟩ ⟨Nat.le_of_ble_eq_true rfl, Nat.le_of_ble_eq_true rfl⟩) ⟨kBlind, va_recv hK hPc (ci := 10) (q0 := 0) rfl rfl, fun U hU hW => ⟨rfl, by rw [hU], hN.warm hW, hE.pass hS hFc hW hU, by rw [hU]; exact hPc, va_K.moved hW.alike hK, hDc⟩⟩ rfl rfl hl.1 rfl (lv_room (Nat.le_of_ble_eq_true rfl)) dX11_readAll_63 ⟨Nat.le_of_ble_eq_true rfl, Nat.le_of_ble_eq_true rfl⟩) (fun r656 u H locs hw hP hS => ?_)
        obtain ⟨k657, hw⟩ := hw
        rcases hw with rfl | ⟨rfl, kc658_0, kc658_1⟩
        · skip
          refine lv_if_ne (tgt := 71) hx hb dX11_readAll_66 (by decide) (fun c659 => absurd (by decide) c659) (fun _ => ?_)
          refine lv_iconst (v := (-1)) hx hb dX11_readAll_69 (by decide) ?_
          have hP9 := hP.sub (ws' := [(h, oX11 0 aw ai ab ac hi re aP 0 x648 ta x649 x635 fa a5 x636 av an ak ne aW aC ag aT aN aF), (aw, kcI cI 2179 g637), (aP, .inl (cB, 400, .inl ft))]) [1, 0, 2] rfl
          have hD9 := hD.sub (ws' := [(h, oX11 0 aw ai ab ac hi re aP 0 x648 ta x649 x635 fa a5 x636 av an ak ne aW aC ag aT aN aF), (aw, kcI cI 2179 g637), (aP, .inl (cB, 400, .inl ft))]) [1, 0, 2] (by decide) rfl
          exact W.iret (v := (-1)) hx hb hr (fun t ht hW => ⟨⟨(-1), (x648, x649, x635, x636, g637), rfl, ⟨k650, k651, k640, k641, k642, k643, (rg_w (rg_lit (n := -1) (by decide)) (by decide)), (Or.inl (by decide)), (hF1.trans (kIter_out (kC_eq rfl (kC_eq rfl (kC_eq rfl (kC_eq rfl (kC_eq rfl (kC_eq k644 (kC_eq rfl (kC_eq rfl (kC_eq rfl (kC_eq rfl (kif_f (by decide) (kC_eq k654 (kif_f (neI c655) (kLet_eq (k657).symm (kif_t rfl rfl)))))))))))))))))⟩, by rw [ht]; exact hP9, va_K.moved hW.alike hK, hD9⟩, hS.F ht⟩) hS.2.2 dX11_readAll_70
        · skip
          refine lv_if_ne (tgt := 71) hx hb dX11_readAll_66 (by decide) (fun _ => ?_) (fun c660 => absurd c660 (by decide))
          refine lv_aload_n hx hb dX11_readAll_71 rfl (lv_at hl 1 rfl) ?_
          refine lv_dup hx hb dX11_readAll_72 rfl ?_
          refine va_get (D := D) (ci := 10) (v := .int x648) (C := RX11) (T := TX11) (N := 26) hx hb hts iG_X11 hown hK hP 1 rfl rfl 9 (by decide) (hts _ w18_5) (fun _ h9 => h9) rfl dX11_readAll_73 ?_
          refine lv_iconst (v := 1) hx hb dX11_readAll_76 (by decide) ?_
          refine lv_iadd hx hb dX11_readAll_77 ?_
          refine lv_topi (fun x661 ex661 => ?_)
          have tx661 : x661.toInt = x648.toInt + 1 := ti_add ex661 kc658_0 (rg_lit (n := 1) (by decide)) (by decide) rfl (by decide)
          have k662 : Rg x661 1 400 := rg_add ex661 kc658_0 (rg_lit (n := 1) (by decide)) (by decide)
          refine va_put (D := D) (ci := 10) (v := .int x661) (ty := .int) (C := RX11) (T := TX11) (N := 26) hx hb hts iG_X11 tyX11 tyX11_ok nmX11 hown hK hP hD hS 1 rfl rfl 9 (by decide) (hts _ w18_5) (fun _ h9 => h9) rfl (by decide +kernel) rfl rfl (Nat.le_of_ble_eq_true rfl) dX11_readAll_78 (fun H locs hP hD hS => ?_)
          have hP : va_P D vwCl [(aw, kcI cI 2179 g637), (h, oX11 0 aw ai ab ac hi re aP 0 x661 ta x649 x635 fa a5 x636 av an ak ne aW aC ag aT aN aF), (aP, .inl (cB, 400, .inl ft))] H := hP
          have hD : va_D A [(aw, kcI cI 2179 g637), (h, oX11 0 aw ai ab ac hi re aP 0 x661 ta x649 x635 fa a5 x636 av an ak ne aW aC ag aT aN aF), (aP, .inl (cB, 400, .inl ft))] := hD
          obtain ⟨x663, ex663⟩ : ∃ y : Int32, y = y625 + 1 := ⟨_, rfl⟩
          refine lv_iinc (v := x663) (lv' := [(2, .int x663), (0, .ref h), (1, .int 0)]) hx hb dX11_readAll_81 hl (k := 0) rfl (by rw [ex663]; rfl) (by decide) rfl (fun ls hl => ?_)
          have k664 : Rg x663 1 12 := rg_add ex663 kc645_0 (rg_lit (n := 1) (by decide)) (by decide)
          refine lv_goto (tgt := 28) hx hb dX11_readAll_84 (by decide) ?_
          exact ih631 (x663, g637, x661, x649, x635, x636) _ _ _ (by show (12 - (x663).toInt).toNat < (12 - (y625).toInt).toNat; exact mu_up ex663 kc645_0 k664 (by decide)) ⟨(wD_step hX28_0 kc645_1 kc645_0 (ti_add (Y := 1) ex663 kc645_0 (rg_lit (n := 1) (by decide)) (by decide) rfl (by decide))), (by have q0 := k5; have q2 := congrArg Int32.toInt k6; have q3 := neI c8; have q4 := neI (Ne.symm c8); have q7 := hX28_1; have q9 := kc645_2; have q10 := k652; have q11 := congrArg Int32.toInt k653; have q12 := neI c655; have q13 := neI (Ne.symm c655); have q14 := tx661; have q15 := k640; have q16 := k662; have q17 : (0 : Int32).toInt = 0 := (by decide); have q18 : (1 : Int32).toInt = 1 := (by decide); unfold Rg at *; omega), (hF1.trans (kIter_go (kC_eq rfl (kC_eq rfl (kC_eq rfl (kC_eq rfl (kC_eq rfl (kC_eq k644 (kC_eq rfl (kC_eq rfl (kC_eq rfl (kC_eq rfl (kif_f (by decide) (kC_eq k654 (kif_f (neI c655) (kLet_eq (k657).symm (kif_f (by decide) (kLet_eq (ti_add ex661 kc658_0 (rg_lit (n := 1) (by decide)) (by decide) rfl rfl) (kLet_eq (ti_add ex663 kc645_0 (rg_lit (n := 1) (by decide)) (by decide) rfl rfl) rfl))))))))))))))))))), (rg_w k664 (by decide)), k641, k642, k643, (rg_w k662 (by decide)), k651, k640, hP.sub (ws' := [(aw, kcI cI 2179 g637), (h, oX11 0 aw ai ab ac hi re aP 0 x661 ta x649 x635 fa a5 x636 av an ak ne aW aC ag aT aN aF), (aP, .inl (cB, 400, .inl ft))]) [0, 1, 2] rfl, hD.sub (ws' := [(aw, kcI cI 2179 g637), (h, oX11 0 aw ai ab ac hi re aP 0 x661 ta x649 x635 fa a5 x636 av an ak ne aW aC ag aT aN aF), (aP, .inl (cB, 400, .inl ft))]) [0, 1, 2] (by decide) rfl, hS, lv_sub (l' := [(2, .int x663), (0, .ref h), (1, .int 0)]) hl [0, 1, 2] rfl⟩
      · skip
        refine lv_iload_n hx hb dX11_readAll_54 rfl (lv_at hl 0 rfl) ?_
        refine lv_iconst (v := 1) hx hb dX11_readAll_55 (by decide) ?_
        refine lv_iadd hx hb dX11_readAll_56 ?_
        refine lv_topi (fun x665 ex665 => ?_)
        have tx665 : x665.toInt = y625.toInt + 1 := ti_add ex665 kc645_0 (rg_lit (n := 1) (by decide)) (by decide) rfl (by decide)
        have k666 : Rg x665 1 12 := rg_add ex665 kc645_0 (rg_lit (n := 1) (by decide)) (by decide)
        have hP9 := hP.sub (ws' := [(h, oX11 0 aw ai ab ac hi re aP 0 x648 ta x649 x635 fa a5 x636 av an ak ne aW aC ag aT aN aF), (aw, kcI cI 2179 g637), (aP, .inl (cB, 400, .inl ft))]) [1, 0, 2] rfl
        have hD9 := hD.sub (ws' := [(h, oX11 0 aw ai ab ac hi re aP 0 x648 ta x649 x635 fa a5 x636 av an ak ne aW aC ag aT aN aF), (aw, kcI cI 2179 g637), (aP, .inl (cB, 400, .inl ft))]) [1, 0, 2] (by decide) rfl
        exact W.iret (v := x665) hx hb hr (fun t ht hW => ⟨⟨x665, (x648, x649, x635, x636, g637), rfl, ⟨k650, k651, k640, k641, k642, k643, (rg_w k666 (by decide)), (Or.inr (wD_step hX28_0 kc645_1 kc645_0 tx665)), (hF1.trans (kIter_out (kC_eq rfl (kC_eq rfl (kC_eq rfl (kC_eq rfl (kC_eq rfl (kC_eq k644 (kC_eq rfl (kC_eq rfl (kC_eq rfl (kC_eq rfl (kif_f (by decide) (kC_eq k654 (kif_t (eqI c655) (kLet_eq (ti_add ex665 kc645_0 (rg_lit (n := 1) (by decide)) (by decide) rfl rfl) rfl))))))))))))))))⟩, by rw [ht]; exact hP9, va_K.moved hW.alike hK, hD9⟩, hS.F ht⟩) hS.2.2 dX11_readAll_57
  · skip
    refine lv_iconst (v := 0) hx hb dX11_readAll_24 (by decide) ?_
    have hP9 := hP.sub (ws' := [(h, oX11 0 aw ai ab ac hi re aP 0 x1 ta x2 de fa a5 0 av an ak ne aW aC ag aT aN aF), (aw, kcI cI 2179 fw), (aP, .inl (cB, 400, .inl ft))]) [1, 0, 2] rfl
    have hD9 := hD.sub (ws' := [(h, oX11 0 aw ai ab ac hi re aP 0 x1 ta x2 de fa a5 0 av an ak ne aW aC ag aT aN aF), (aw, kcI cI 2179 fw), (aP, .inl (cB, 400, .inl ft))]) [1, 0, 2] (by decide) rfl
    exact W.iret (v := 0) hx hb hr (fun t ht hW => ⟨⟨0, (x1, x2, de, (0 : Int32), fw), rfl, ⟨k3, k4, (rg_w (rg_lit (n := 0) (by decide)) (by decide)), H_fw_B, H_fw_L, H_fw_W, (rg_w (rg_lit (n := 0) (by decide)) (by decide)), (Or.inr (wD_0 _ _)), (kC_eq k7 (kif_t (eqI c8) rfl))⟩, by rw [ht]; exact hP9, va_K.moved hW.alike hK, hD9⟩, hS.F ht⟩) hS.2.2 dX11_readAll_25

