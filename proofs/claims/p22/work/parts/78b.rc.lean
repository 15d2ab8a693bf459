def kwX11_readShirt : List Cond := .code yX11_readShirt cX11_readShirt 6 (some .boolean) :: kG
theorem hdX11_readShirt : yX11_readShirt.cls ≠ "java/lang/invoke/MethodHandle" ∧ yX11_readShirt.cls ≠ "java/lang/invoke/VarHandle" ∧ (parseMethodDescriptor yX11_readShirt.desc).map (fun d => d.parameters.length) = some 0 := by decide +kernel
theorem gX11_readShirt_X11_after : GoodIn kG (wsV RX11 130 RX11 yX11_after kwX11_after) := gK w20_1 (gK w20_2 (gK w20_3 (gK w0_5 (gK w20_4 gGG))))
theorem gX11_readShirt_X11_colour : GoodIn kG (wsV RX11 138 RX11 yX11_colour kwX11_colour) := gK w20_5 (gK w20_6 (gK w20_7 (gK w0_5 (gK w20_8 gGG))))
theorem gX11_readShirt_X11_sets : GoodIn kG (wsV RX11 150 RX11 yX11_sets kwX11_sets) := gK w20_21 (gK w20_22 (gK w20_23 (gK w0_5 (gK w21_0 gGG))))
theorem gX11_readShirt_X11_shirts : GoodIn kG (wsV RX11 79 RX11 yX11_shirts kwX11_shirts) := gK w20_17 (gK w20_18 (gK w20_19 (gK w0_5 (gK w20_20 gGG))))
theorem dX11_readShirt_0 : decode cX11_readShirt 0 = .ok (.aload_n 0, 1) := by decide +kernel
theorem dX11_readShirt_1 : decode cX11_readShirt 1 = .ok (.invokevirtual 79, 3) := by decide +kernel
theorem dX11_readShirt_4 : decode cX11_readShirt 4 = .ok (.istore_n 1, 1) := by decide +kernel
theorem dX11_readShirt_5 : decode cX11_readShirt 5 = .ok (.iload_n 1, 1) := by decide +kernel
theorem dX11_readShirt_6 : decode cX11_readShirt 6 = .ok (.bipush 12, 2) := by decide +kernel
theorem dX11_readShirt_8 : decode cX11_readShirt 8 = .ok (.if_icmp .ne 5, 3) := by decide +kernel
theorem dX11_readShirt_11 : decode cX11_readShirt 11 = .ok (.iconst 0, 1) := by decide +kernel
theorem dX11_readShirt_12 : decode cX11_readShirt 12 = .ok (.ireturn, 1) := by decide +kernel
theorem dX11_readShirt_13 : decode cX11_readShirt 13 = .ok (.aload_n 0, 1) := by decide +kernel
theorem dX11_readShirt_14 : decode cX11_readShirt 14 = .ok (.invokevirtual 138, 3) := by decide +kernel
theorem dX11_readShirt_17 : decode cX11_readShirt 17 = .ok (.istore_n 2, 1) := by decide +kernel
theorem dX11_readShirt_18 : decode cX11_readShirt 18 = .ok (.iload_n 2, 1) := by decide +kernel
theorem dX11_readShirt_19 : decode cX11_readShirt 19 = .ok (.ifCond .ge 7, 3) := by decide +kernel
theorem dX11_readShirt_22 : decode cX11_readShirt 22 = .ok (.iconst (-1), 1) := by decide +kernel
theorem dX11_readShirt_23 : decode cX11_readShirt 23 = .ok (.goto 13, 3) := by decide +kernel
theorem dX11_readShirt_26 : decode cX11_readShirt 26 = .ok (.aload_n 0, 1) := by decide +kernel
theorem dX11_readShirt_27 : decode cX11_readShirt 27 = .ok (.ldc 145, 2) := by decide +kernel
theorem dX11_readShirt_29 : decode cX11_readShirt 29 = .ok (.iconst 0, 1) := by decide +kernel
theorem dX11_readShirt_30 : decode cX11_readShirt 30 = .ok (.sipush 999, 3) := by decide +kernel
theorem dX11_readShirt_33 : decode cX11_readShirt 33 = .ok (.invokevirtual 130, 3) := by decide +kernel
theorem dX11_readShirt_36 : decode cX11_readShirt 36 = .ok (.istore_n 3, 1) := by decide +kernel
theorem dX11_readShirt_37 : decode cX11_readShirt 37 = .ok (.iload_n 3, 1) := by decide +kernel
theorem dX11_readShirt_38 : decode cX11_readShirt 38 = .ok (.ifCond .ge 7, 3) := by decide +kernel
theorem dX11_readShirt_41 : decode cX11_readShirt 41 = .ok (.iconst (-1), 1) := by decide +kernel
theorem dX11_readShirt_42 : decode cX11_readShirt 42 = .ok (.goto 12, 3) := by decide +kernel
theorem dX11_readShirt_45 : decode cX11_readShirt 45 = .ok (.aload_n 0, 1) := by decide +kernel
theorem dX11_readShirt_46 : decode cX11_readShirt 46 = .ok (.ldc 146, 2) := by decide +kernel
theorem dX11_readShirt_48 : decode cX11_readShirt 48 = .ok (.iconst 0, 1) := by decide +kernel
theorem dX11_readShirt_49 : decode cX11_readShirt 49 = .ok (.bipush 99, 2) := by decide +kernel
theorem dX11_readShirt_51 : decode cX11_readShirt 51 = .ok (.invokevirtual 130, 3) := by decide +kernel
theorem dX11_readShirt_54 : decode cX11_readShirt 54 = .ok (.istore 4, 2) := by decide +kernel
theorem dX11_readShirt_56 : decode cX11_readShirt 56 = .ok (.iload 4, 2) := by decide +kernel
theorem dX11_readShirt_58 : decode cX11_readShirt 58 = .ok (.ifCond .ge 7, 3) := by decide +kernel
theorem dX11_readShirt_61 : decode cX11_readShirt 61 = .ok (.iconst (-1), 1) := by decide +kernel
theorem dX11_readShirt_62 : decode cX11_readShirt 62 = .ok (.goto 12, 3) := by decide +kernel
theorem dX11_readShirt_65 : decode cX11_readShirt 65 = .ok (.aload_n 0, 1) := by decide +kernel
theorem dX11_readShirt_66 : decode cX11_readShirt 66 = .ok (.ldc 148, 2) := by decide +kernel
theorem dX11_readShirt_68 : decode cX11_readShirt 68 = .ok (.iconst 0, 1) := by decide +kernel
theorem dX11_readShirt_69 : decode cX11_readShirt 69 = .ok (.bipush 9, 2) := by decide +kernel
theorem dX11_readShirt_71 : decode cX11_readShirt 71 = .ok (.invokevirtual 130, 3) := by decide +kernel
theorem dX11_readShirt_74 : decode cX11_readShirt 74 = .ok (.istore 5, 2) := by decide +kernel
theorem dX11_readShirt_76 : decode cX11_readShirt 76 = .ok (.iload 5, 2) := by decide +kernel
theorem dX11_readShirt_78 : decode cX11_readShirt 78 = .ok (.ifCond .ge 5, 3) := by decide +kernel
theorem dX11_readShirt_81 : decode cX11_readShirt 81 = .ok (.iconst 0, 1) := by decide +kernel
theorem dX11_readShirt_82 : decode cX11_readShirt 82 = .ok (.ireturn, 1) := by decide +kernel
theorem dX11_readShirt_83 : decode cX11_readShirt 83 = .ok (.aload_n 0, 1) := by decide +kernel
theorem dX11_readShirt_84 : decode cX11_readShirt 84 = .ok (.iload_n 1, 1) := by decide +kernel
theorem dX11_readShirt_85 : decode cX11_readShirt 85 = .ok (.iconst 0, 1) := by decide +kernel
theorem dX11_readShirt_86 : decode cX11_readShirt 86 = .ok (.iload_n 2, 1) := by decide +kernel
theorem dX11_readShirt_87 : decode cX11_readShirt 87 = .ok (.invokevirtual 150, 3) := by decide +kernel
theorem dX11_readShirt_90 : decode cX11_readShirt 90 = .ok (.aload_n 0, 1) := by decide +kernel
theorem dX11_readShirt_91 : decode cX11_readShirt 91 = .ok (.iload_n 1, 1) := by decide +kernel
theorem dX11_readShirt_92 : decode cX11_readShirt 92 = .ok (.iconst 1, 1) := by decide +kernel
theorem dX11_readShirt_93 : decode cX11_readShirt 93 = .ok (.iload_n 3, 1) := by decide +kernel
theorem dX11_readShirt_94 : decode cX11_readShirt 94 = .ok (.invokevirtual 150, 3) := by decide +kernel
theorem dX11_readShirt_97 : decode cX11_readShirt 97 = .ok (.aload_n 0, 1) := by decide +kernel
theorem dX11_readShirt_98 : decode cX11_readShirt 98 = .ok (.iload_n 1, 1) := by decide +kernel
theorem dX11_readShirt_99 : decode cX11_readShirt 99 = .ok (.iconst 2, 1) := by decide +kernel
theorem dX11_readShirt_100 : decode cX11_readShirt 100 = .ok (.iload 4, 2) := by decide +kernel
theorem dX11_readShirt_102 : decode cX11_readShirt 102 = .ok (.invokevirtual 150, 3) := by decide +kernel
theorem dX11_readShirt_105 : decode cX11_readShirt 105 = .ok (.aload_n 0, 1) := by decide +kernel
theorem dX11_readShirt_106 : decode cX11_readShirt 106 = .ok (.iload_n 1, 1) := by decide +kernel
theorem dX11_readShirt_107 : decode cX11_readShirt 107 = .ok (.iconst 3, 1) := by decide +kernel
theorem dX11_readShirt_108 : decode cX11_readShirt 108 = .ok (.iload 5, 2) := by decide +kernel
theorem dX11_readShirt_110 : decode cX11_readShirt 110 = .ok (.invokevirtual 150, 3) := by decide +kernel
theorem dX11_readShirt_113 : decode cX11_readShirt 113 = .ok (.aload_n 0, 1) := by decide +kernel
theorem dX11_readShirt_114 : decode cX11_readShirt 114 = .ok (.iload_n 1, 1) := by decide +kernel
theorem dX11_readShirt_115 : decode cX11_readShirt 115 = .ok (.iconst 4, 1) := by decide +kernel
theorem dX11_readShirt_116 : decode cX11_readShirt 116 = .ok (.iload_n 1, 1) := by decide +kernel
theorem dX11_readShirt_117 : decode cX11_readShirt 117 = .ok (.invokevirtual 150, 3) := by decide +kernel
theorem dX11_readShirt_120 : decode cX11_readShirt 120 = .ok (.aload_n 0, 1) := by decide +kernel
theorem dX11_readShirt_121 : decode cX11_readShirt 121 = .ok (.iload_n 1, 1) := by decide +kernel
theorem dX11_readShirt_122 : decode cX11_readShirt 122 = .ok (.iconst 5, 1) := by decide +kernel
theorem dX11_readShirt_123 : decode cX11_readShirt 123 = .ok (.iconst (-1), 1) := by decide +kernel
theorem dX11_readShirt_124 : decode cX11_readShirt 124 = .ok (.invokevirtual 150, 3) := by decide +kernel
theorem dX11_readShirt_127 : decode cX11_readShirt 127 = .ok (.aload_n 0, 1) := by decide +kernel
theorem dX11_readShirt_128 : decode cX11_readShirt 128 = .ok (.iload_n 1, 1) := by decide +kernel
theorem dX11_readShirt_129 : decode cX11_readShirt 129 = .ok (.bipush 6, 2) := by decide +kernel
theorem dX11_readShirt_131 : decode cX11_readShirt 131 = .ok (.iconst (-1), 1) := by decide +kernel
theorem dX11_readShirt_132 : decode cX11_readShirt 132 = .ok (.invokevirtual 150, 3) := by decide +kernel
theorem dX11_readShirt_135 : decode cX11_readShirt 135 = .ok (.aload_n 0, 1) := by decide +kernel
theorem dX11_readShirt_136 : decode cX11_readShirt 136 = .ok (.getfield 13, 3) := by decide +kernel
theorem dX11_readShirt_139 : decode cX11_readShirt 139 = .ok (.iconst 1, 1) := by decide +kernel
theorem dX11_readShirt_140 : decode cX11_readShirt 140 = .ok (.dup2, 1) := by decide +kernel
theorem dX11_readShirt_141 : decode cX11_readShirt 141 = .ok (.iaload, 1) := by decide +kernel
theorem dX11_readShirt_142 : decode cX11_readShirt 142 = .ok (.iconst 1, 1) := by decide +kernel
theorem dX11_readShirt_143 : decode cX11_readShirt 143 = .ok (.iadd, 1) := by decide +kernel
theorem dX11_readShirt_144 : decode cX11_readShirt 144 = .ok (.iastore, 1) := by decide +kernel
theorem dX11_readShirt_145 : decode cX11_readShirt 145 = .ok (.iconst 1, 1) := by decide +kernel
theorem dX11_readShirt_146 : decode cX11_readShirt 146 = .ok (.ireturn, 1) := by decide +kernel
set_option maxHeartbeats 4000000 in
set_option maxRecDepth 100000 in
/-- reference: readShirt -/
theorem r_readShirt (l : Launch) (D : va_G) (cI cJ cB cC : ClassId) (h : Nat) (th : Int32) (aw : Nat) (ai : Nat) (ab : Nat) (ac : Nat) (hi : Int32) (re : Int32) (aP : Nat) (ta : Int32) (po : Int32) (en : Int32) (be : Int32) (de : Int32) (fa : Int32) (a5 : Nat) (sp : Int32) (av : Nat) (an : Nat) (ak : Nat) (ne : Int32) (aW : Nat) (aC : Nat) (ag : Nat) (aT : Nat) (aN : Nat) (aF : Nat) (fw : Nat → Int32) (ft : Nat → Int32) (sz : Nat) (H_po : Rg po 0 400) (H_en : Rg en 0 400) (H_fw_W : wW fw) (H_fw_B : wB fw) (H_fw_L : wL fw) : Met l yX11_readShirt kwX11_readShirt ({ frames := 6, cells := 0, slots := 0, locals := 131 } : Room) (kPre D (kT cI cJ cB cC) sz [(h, oX11 th aw ai ab ac hi re aP ta po en be de fa a5 sp av an ak ne aW aC ag aT aN aF), (aw, kcI cI 2179 fw), (aP, .inl (cB, 400, .inl ft))] [.ref h]) (va_Qi (fun (r : Int32) (uu : Int32 × Int32 × (Nat → Int32)) => match uu with | (n0_, n1_, f2_) => Rg n0_ 0 400 ∧ wB f2_ ∧ wL f2_ ∧ wW f2_ ∧ F_r_readShirt (po : Int32).toInt (en : Int32).toInt (be : Int32).toInt (gT fw) (gT ft) = ((r : Int32).toInt, (n0_ : Int32).toInt, (n1_ : Int32).toInt, (gT f2_)) ∧ ((r = 0) ∨ (r = 1))) (fun (uu : Int32 × Int32 × (Nat → Int32)) (t : State) => match uu with | (n0_, n1_, f2_) => kB D (kT cI cJ cB cC) (va_A [(h, oX11 th aw ai ab ac hi re aP ta po en be de fa a5 sp av an ak ne aW aC ag aT aN aF), (aw, kcI cI 2179 fw), (aP, .inl (cB, 400, .inl ft))] sz) [(h, oX11 th aw ai ab ac hi re aP ta n0_ en n1_ de fa a5 sp av an ak ne aW aC ag aT aN aF), (aw, kcI cI 2179 f2_), (aP, .inl (cB, 400, .inl ft))] t) (va_A [(h, oX11 th aw ai ab ac hi re aP ta po en be de fa a5 sp av an ak ne aW aC ag aT aN aF), (aw, kcI cI 2179 fw), (aP, .inl (cB, 400, .inl ft))] sz)) 0 0 (va_A [(h, oX11 th aw ai ab ac hi re aP ta po en be de fa a5 sp av an ak ne aW aC ag aT aN aF), (aw, kcI cI 2179 fw), (aP, .inl (cB, 400, .inl ft))] sz) := by
  refine Met.ofW (cc := cX11_readShirt) (maxL := 6) (ret := (some .boolean)) (by decide) rfl ?_
  intro p e s m args below meth c s₁ B hml hv
  obtain ⟨rfl, hsz, hN, hE, hP, hK, hD0⟩ := hv
  have hx := B.exec
  have hb := B.bytes
  have hr := B.returns
  have hts := fun (w : Cond) (h : w ∈ kG) => atoms_spec (ws := kwX11_readShirt) B.pre w (List.mem_cons_of_mem _ h)
  have hown : s.vm.findClass RX11 = some m.cls := findClass_of_methodNamed B.named
  subst hsz
  have hD := hD0.self (sz := s.heap.size)
  generalize hAe : va_A [(h, oX11 th aw ai ab ac hi re aP ta po en be de fa a5 sp av an ak ne aW aC ag aT aN aF), (aw, kcI cI 2179 fw), (aP, .inl (cB, 400, .inl ft))] s.heap.size = A at hD hE ⊢
  have hA : ∀ q : Nat, s.heap.size ≤ q → A q := fun q h => by rw [← hAe]; exact Or.inr h
  have hl := lv_entry ([.ref h]) (n := 6) (Nat.le_of_ble_eq_true rfl)
  rw [lg_entry_eq]
  generalize (lg_sl ([.ref h]) ++ List.replicate (6 - (lg_sl ([.ref h])).length) Slot.unset).toArray = ls at hl ⊢
  have hl : lv_has ls 6 [(0, .ref h)] := hl
  obtain ⟨H, hH0⟩ : ∃ H, H = s.heap := ⟨_, rfl⟩
  have hS : va_S A s.heap H [] := by rw [hH0]; exact va_S.rf
  have hP : va_P D vwCl [(h, oX11 th aw ai ab ac hi re aP ta po en be de fa a5 sp av an ak ne aW aC ag aT aN aF), (aw, kcI cI 2179 fw), (aP, .inl (cB, 400, .inl ft))] H := by rw [hH0]; exact hP
  refine kHeap hH0 ?_
  clear hH0
  refine lv_aload_n hx hb dX11_readShirt_0 rfl (lv_at hl 0 rfl) ?_
  refine kpurei (wc := [(h, oX11 th aw ai ab ac hi re aP ta po en be de fa a5 sp av an ak ne aW aC ag aT aN aF), (aw, kcI cI 2179 fw)]) hP hD hS hA [0, 1] rfl (by decide) (fun hPc hDc hFc => va_runV (As := []) (rest := []) ⟨hx, hb, hml, hown, hts⟩ (r_shirts l D cI cJ cB cC h th aw ai ab ac hi re aP ta po en be de fa a5 sp av an ak ne aW aC ag aT aN aF fw H.size H_fw_W) (cwV 0 hts gX11_readShirt_X11_shirts rfl rfl rfl ⟨rfl, hdX11_shirts⟩ ⟨Nat.le_of_ble_eq_true rfl, Nat.le_of_ble_eq_true rfl⟩) ⟨kBlind, va_recv hK hPc (ci := 10) (q0 := 0) rfl rfl, fun U hU hW => ⟨rfl, by rw [hU], hN.warm hW, hE.pass hS hFc hW hU, by rw [hU]; exact hPc, va_K.moved hW.alike hK, hDc⟩⟩ rfl rfl hl.1 rfl (lv_room (Nat.le_of_ble_eq_true rfl)) dX11_readShirt_1 ⟨Nat.le_of_ble_eq_true rfl, Nat.le_of_ble_eq_true rfl⟩) (fun r1 u H locs hw hP hS => ?_)
  obtain ⟨k2, k3, k4⟩ := hw
  refine lv_istore_n (lv' := [(1, .int r1), (0, .ref h)]) hx hb dX11_readShirt_4 rfl hl (by decide) rfl (fun ls hl => ?_)
  refine lv_iload_n hx hb dX11_readShirt_5 rfl (lv_at hl 0 rfl) ?_
  refine lv_bipush (v := 12) hx hb dX11_readShirt_6 (by decide) ?_
  refine lv_icmp_ne (tgt := 13) hx hb dX11_readShirt_8 (by decide) (fun c5 => ?_) (fun c5 => ?_)
  · skip
    have k6 : Rg r1 0 11 := rg_n1 (neI c5) k3 (rg_lit (n := 12) (by decide)) (by decide)
    refine lv_aload_n hx hb dX11_readShirt_13 rfl (lv_at hl 1 rfl) ?_
    refine kcalli (wc := [(h, oX11 th aw ai ab ac hi re aP ta po en be de fa a5 sp av an ak ne aW aC ag aT aN aF), (aP, .inl (cB, 400, .inl ft))]) (wr := [(aw, kcI cI 2179 fw)]) hP hD hS hA [0, 2] [1] rfl rfl (by decide) (by decide) (by decide) (fun hPc hDc hFc => va_runV (As := []) (rest := []) ⟨hx, hb, hml, hown, hts⟩ (r_colour l D cI cJ cB cC h th aw ai ab ac hi re aP ta po en be de fa a5 sp av an ak ne aW aC ag aT aN aF ft H.size H_po H_en) (cwV 0 hts gX11_readShirt_X11_colour rfl rfl rfl ⟨rfl, hdX11_colour⟩ ⟨Nat.le_of_ble_eq_true rfl, Nat.le_of_ble_eq_true rfl⟩) ⟨kBlind, va_recv hK hPc (ci := 10) (q0 := 0) rfl rfl, fun U hU hW => ⟨rfl, by rw [hU], hN.warm hW, hE.pass hS hFc hW hU, by rw [hU]; exact hPc, va_K.moved hW.alike hK, hDc⟩⟩ rfl rfl hl.1 rfl (lv_room (Nat.le_of_ble_eq_true rfl)) dX11_readShirt_14 ⟨Nat.le_of_ble_eq_true rfl, Nat.le_of_ble_eq_true rfl⟩) (fun r7 u H locs hw hP hD hS => ?_)
    obtain ⟨x8, x9⟩ := u
    have hP : va_P D vwCl [(aw, kcI cI 2179 fw), (h, oX11 th aw ai ab ac hi re aP ta x8 en x9 de fa a5 sp av an ak ne aW aC ag aT aN aF), (aP, .inl (cB, 400, .inl ft))] H := hP
    have hD : va_D A [(aw, kcI cI 2179 fw), (h, oX11 th aw ai ab ac hi re aP ta x8 en x9 de fa a5 sp av an ak ne aW aC ag aT aN aF), (aP, .inl (cB, 400, .inl ft))] := hD
    obtain ⟨k10, k11, k12, k13⟩ := hw
    refine lv_istore_n (lv' := [(2, .int r7), (1, .int r1), (0, .ref h)]) hx hb dX11_readShirt_17 rfl hl (by decide) rfl (fun ls hl => ?_)
    refine lv_iload_n hx hb dX11_readShirt_18 rfl (lv_at hl 0 rfl) ?_
    refine k_join (hd := 36) (cells2 := 0) (slots2 := 0) (fun (u : Int32 × Int32 × Int32) => match u with | (z31, y32, y33) => [.int z31]) (fun (u : Int32 × Int32 × Int32) (H : Heap) (locs : List Loc) (ls : Array Slot) => match u with | (z31, y32, y33) => (F_r_readShirt po.toInt en.toInt be.toInt (gT fw) (gT ft) = F_r_readShirt_j1 en.toInt (gT fw) (gT ft) r1.toInt r7.toInt z31.toInt y32.toInt y33.toInt) ∧ Rg z31 (-1) 999 ∧ Rg y32 0 400 ∧ Rg y33 0 400 ∧ va_P D vwCl [(aw, kcI cI 2179 fw), (h, oX11 th aw ai ab ac hi re aP ta y32 en y33 de fa a5 sp av an ak ne aW aC ag aT aN aF), (aP, .inl (cB, 400, .inl ft))] H ∧ va_D A [(aw, kcI cI 2179 fw), (h, oX11 th aw ai ab ac hi re aP ta y32 en y33 de fa a5 sp av an ak ne aW aC ag aT aN aF), (aP, .inl (cB, 400, .inl ft))] ∧ va_S A s.heap H locs ∧ lv_has ls 6 [(2, .int r7), (1, .int r1), (0, .ref h)]) (fun u H locs ls hI => ?_) (fun hJ36 => ?_)
    · skip
      clear hP hD hS hl
      obtain ⟨z31, y32, y33⟩ := u
      obtain ⟨hF1, hz31, hy32, hy33, hP, hD, hS, hl⟩ := hI
      have hP : va_P D vwCl [(aw, kcI cI 2179 fw), (h, oX11 th aw ai ab ac hi re aP ta y32 en y33 de fa a5 sp av an ak ne aW aC ag aT aN aF), (aP, .inl (cB, 400, .inl ft))] H := hP
      have hD : va_D A [(aw, kcI cI 2179 fw), (h, oX11 th aw ai ab ac hi re aP ta y32 en y33 de fa a5 sp av an ak ne aW aC ag aT aN aF), (aP, .inl (cB, 400, .inl ft))] := hD
      have hl : lv_has ls 6 [(2, .int r7), (1, .int r1), (0, .ref h)] := hl
      show W _ _ _ _ _ _ _ _ _ _ _ _ _ _ _ (F0 m 36 ls [.int z31])
      refine lv_istore_n (lv' := [(3, .int z31), (2, .int r7), (1, .int r1), (0, .ref h)]) hx hb dX11_readShirt_36 rfl hl (by decide) rfl (fun ls hl => ?_)
      refine lv_iload_n hx hb dX11_readShirt_37 rfl (lv_at hl 0 rfl) ?_
      refine k_join (hd := 54) (cells2 := 0) (slots2 := 0) (fun (u : Int32 × Int32 × Int32) => match u with | (z51, y52, y53) => [.int z51]) (fun (u : Int32 × Int32 × Int32) (H : Heap) (locs : List Loc) (ls : Array Slot) => match u with | (z51, y52, y53) => (F_r_readShirt po.toInt en.toInt be.toInt (gT fw) (gT ft) = F_r_readShirt_j2 en.toInt (gT fw) (gT ft) r1.toInt r7.toInt z31.toInt z51.toInt y52.toInt y53.toInt) ∧ Rg z51 (-1) 99 ∧ Rg y52 0 400 ∧ Rg y53 0 400 ∧ va_P D vwCl [(aw, kcI cI 2179 fw), (h, oX11 th aw ai ab ac hi re aP ta y52 en y53 de fa a5 sp av an ak ne aW aC ag aT aN aF), (aP, .inl (cB, 400, .inl ft))] H ∧ va_D A [(aw, kcI cI 2179 fw), (h, oX11 th aw ai ab ac hi re aP ta y52 en y53 de fa a5 sp av an ak ne aW aC ag aT aN aF), (aP, .inl (cB, 400, .inl ft))] ∧ va_S A s.heap H locs ∧ lv_has ls 6 [(3, .int z31), (2, .int r7), (1, .int r1), (0, .ref h)]) (fun u H locs ls hI => ?_) (fun hJ54 => ?_)
      · skip
        clear hP hD hS hl
        obtain ⟨z51, y52, y53⟩ := u
        obtain ⟨hF2, hz51, hy52, hy53, hP, hD, hS, hl⟩ := hI
        have hP : va_P D vwCl [(aw, kcI cI 2179 fw), (h, oX11 th aw ai ab ac hi re aP ta y52 en y53 de fa a5 sp av an ak ne aW aC ag aT aN aF), (aP, .inl (cB, 400, .inl ft))] H := hP
        have hD : va_D A [(aw, kcI cI 2179 fw), (h, oX11 th aw ai ab ac hi re aP ta y52 en y53 de fa a5 sp av an ak ne aW aC ag aT aN aF), (aP, .inl (cB, 400, .inl ft))] := hD
        have hl : lv_has ls 6 [(3, .int z31), (2, .int r7), (1, .int r1), (0, .ref h)] := hl
        show W _ _ _ _ _ _ _ _ _ _ _ _ _ _ _ (F0 m 54 ls [.int z51])
        refine lv_istore (lv' := [(4, .int z51), (3, .int z31), (2, .int r7), (1, .int r1), (0, .ref h)]) hx hb dX11_readShirt_54 hl (by decide) rfl (fun ls hl => ?_)
        refine lv_iload hx hb dX11_readShirt_56 (lv_at hl 0 rfl) ?_
        refine k_join (hd := 74) (cells2 := 0) (slots2 := 0) (fun (u : Int32 × Int32 × Int32) => match u with | (z71, y72, y73) => [.int z71]) (fun (u : Int32 × Int32 × Int32) (H : Heap) (locs : List Loc) (ls : Array Slot) => match u with | (z71, y72, y73) => (F_r_readShirt po.toInt en.toInt be.toInt (gT fw) (gT ft) = F_r_readShirt_j3 (gT fw) r1.toInt r7.toInt z31.toInt z51.toInt z71.toInt y72.toInt y73.toInt) ∧ Rg z71 (-1) 9 ∧ Rg y72 0 400 ∧ Rg y73 0 400 ∧ va_P D vwCl [(aw, kcI cI 2179 fw), (h, oX11 th aw ai ab ac hi re aP ta y72 en y73 de fa a5 sp av an ak ne aW aC ag aT aN aF), (aP, .inl (cB, 400, .inl ft))] H ∧ va_D A [(aw, kcI cI 2179 fw), (h, oX11 th aw ai ab ac hi re aP ta y72 en y73 de fa a5 sp av an ak ne aW aC ag aT aN aF), (aP, .inl (cB, 400, .inl ft))] ∧ va_S A s.heap H locs ∧ lv_has ls 6 [(4, .int z51), (3, .int z31), (2, .int r7), (1, .int r1), (0, .ref h)]) (fun u H locs ls hI => ?_) (fun hJ74 => ?_)
        · skip
          clear hP hD hS hl
          obtain ⟨z71, y72, y73⟩ := u
          obtain ⟨hF3, hz71, hy72, hy73, hP, hD, hS, hl⟩ := hI
          have hP : va_P D vwCl [(aw, kcI cI 2179 fw), (h, oX11 th aw ai ab ac hi re aP ta y72 en y73 de fa a5 sp av an ak ne aW aC ag aT aN aF), (aP, .inl (cB, 400, .inl ft))] H := hP
          have hD : va_D A [(aw, kcI cI 2179 fw), (h, oX11 th aw ai ab ac hi re aP ta y72 en y73 de fa a5 sp av an ak ne aW aC ag aT aN aF), (aP, .inl (cB, 400, .inl ft))] := hD
          have hl : lv_has ls 6 [(4, .int z51), (3, .int z31), (2, .int r7), (1, .int r1), (0, .ref h)] := hl
          show W _ _ _ _ _ _ _ _ _ _ _ _ _ _ _ (F0 m 74 ls [.int z71])
          refine lv_istore (lv' := [(5, .int z71), (4, .int z51), (3, .int z31), (2, .int r7), (1, .int r1), (0, .ref h)]) hx hb dX11_readShirt_74 hl (by decide) rfl (fun ls hl => ?_)
          refine lv_iload hx hb dX11_readShirt_76 (lv_at hl 0 rfl) ?_
          refine lv_if_ge (tgt := 83) hx hb dX11_readShirt_78 (by decide) (fun c74 => ?_) (fun c74 => ?_)
          · skip
            have k75 : Rg z71 0 9 := rg_e2 (leI c74) (rg_lit (n := 0) (by decide)) hz71 (by decide)
            refine lv_aload_n hx hb dX11_readShirt_83 rfl (lv_at hl 5 rfl) ?_
            refine lv_iload_n hx hb dX11_readShirt_84 rfl (lv_at hl 4 rfl) ?_
            refine lv_iconst (v := 0) hx hb dX11_readShirt_85 (by decide) ?_
            refine lv_iload_n hx hb dX11_readShirt_86 rfl (lv_at hl 3 rfl) ?_
            refine kcallv (wc := [(h, oX11 th aw ai ab ac hi re aP ta y72 en y73 de fa a5 sp av an ak ne aW aC ag aT aN aF), (aw, kcI cI 2179 fw)]) (wr := [(aP, .inl (cB, 400, .inl ft))]) hP hD hS hA [1, 0] [2] rfl rfl (by decide) (by decide) (by decide) (fun hPc hDc hFc => va_runV (As := [.int r1, .int 0, .int r7]) (rest := []) ⟨hx, hb, hml, hown, hts⟩ (r_sets0x l D cI cJ cB cC h th aw ai ab ac hi re aP ta y72 en y73 de fa a5 sp av an ak ne aW aC ag aT aN aF fw r1 r7 H.size k6) (cwV 3 hts gX11_readShirt_X11_sets rfl rfl rfl ⟨rfl, hdX11_sets⟩ ⟨Nat.le_of_ble_eq_true rfl, Nat.le_of_ble_eq_true rfl⟩) ⟨kBlind, va_recv hK hPc (ci := 10) (q0 := 0) rfl rfl, fun U hU hW => ⟨rfl, by rw [hU], hN.warm hW, hE.pass hS hFc hW hU, by rw [hU]; exact hPc, va_K.moved hW.alike hK, hDc⟩⟩ rfl rfl hl.1 rfl (lv_room (Nat.le_of_ble_eq_true rfl)) dX11_readShirt_87 ⟨Nat.le_of_ble_eq_true rfl, Nat.le_of_ble_eq_true rfl⟩) (fun u H locs hw hP hD hS => ?_)
            have hP : va_P D vwCl [(aP, .inl (cB, 400, .inl ft)), (h, oX11 th aw ai ab ac hi re aP ta y72 en y73 de fa a5 sp av an ak ne aW aC ag aT aN aF), (aw, kcI cI 2179 (upd fw (61 + 7 * cN r1) r7))] H := hP
            have hD : va_D A [(aP, .inl (cB, 400, .inl ft)), (h, oX11 th aw ai ab ac hi re aP ta y72 en y73 de fa a5 sp av an ak ne aW aC ag aT aN aF), (aw, kcI cI 2179 (upd fw (61 + 7 * cN r1) r7))] := hD
            refine lv_aload_n hx hb dX11_readShirt_90 rfl (lv_at hl 5 rfl) ?_
            refine lv_iload_n hx hb dX11_readShirt_91 rfl (lv_at hl 4 rfl) ?_
            refine lv_iconst (v := 1) hx hb dX11_readShirt_92 (by decide) ?_
            refine lv_iload_n hx hb dX11_readShirt_93 rfl (lv_at hl 2 rfl) ?_
            refine kcallv (wc := [(h, oX11 th aw ai ab ac hi re aP ta y72 en y73 de fa a5 sp av an ak ne aW aC ag aT aN aF), (aw, kcI cI 2179 (upd fw (61 + 7 * cN r1) r7))]) (wr := [(aP, .inl (cB, 400, .inl ft))]) hP hD hS hA [1, 2] [0] rfl rfl (by decide) (by decide) (by decide) (fun hPc hDc hFc => va_runV (As := [.int r1, .int 1, .int z31]) (rest := []) ⟨hx, hb, hml, hown, hts⟩ (r_sets1x l D cI cJ cB cC h th aw ai ab ac hi re aP ta y72 en y73 de fa a5 sp av an ak ne aW aC ag aT aN aF (upd fw (61 + 7 * cN r1) r7) r1 z31 H.size k6) (cwV 3 hts gX11_readShirt_X11_sets rfl rfl rfl ⟨rfl, hdX11_sets⟩ ⟨Nat.le_of_ble_eq_true rfl, Nat.le_of_ble_eq_true rfl⟩) ⟨kBlind, va_recv hK hPc (ci := 10) (q0 := 0) rfl rfl, fun U hU hW => ⟨rfl, by rw [hU], hN.warm hW, hE.pass hS hFc hW hU, by rw [hU]; exact hPc, va_K.moved hW.alike hK, hDc⟩⟩ rfl rfl hl.1 rfl (lv_room (Nat.le_of_ble_eq_true rfl)) dX11_readShirt_94 ⟨Nat.le_of_ble_eq_true rfl, Nat.le_of_ble_eq_true rfl⟩) (fun u H locs hw hP hD hS => ?_)
            have hP : va_P D vwCl [(aP, .inl (cB, 400, .inl ft)), (h, oX11 th aw ai ab ac hi re aP ta y72 en y73 de fa a5 sp av an ak ne aW aC ag aT aN aF), (aw, kcI cI 2179 (upd (upd fw (61 + 7 * cN r1) r7) (62 + 7 * cN r1) z31))] H := hP
            have hD : va_D A [(aP, .inl (cB, 400, .inl ft)), (h, oX11 th aw ai ab ac hi re aP ta y72 en y73 de fa a5 sp av an ak ne aW aC ag aT aN aF), (aw, kcI cI 2179 (upd (upd fw (61 + 7 * cN r1) r7) (62 + 7 * cN r1) z31))] := hD
            refine lv_aload_n hx hb dX11_readShirt_97 rfl (lv_at hl 5 rfl) ?_
            refine lv_iload_n hx hb dX11_readShirt_98 rfl (lv_at hl 4 rfl) ?_
            refine lv_iconst (v := 2) hx hb dX11_readShirt_99 (by decide) ?_
            refine lv_iload hx hb dX11_readShirt_100 (lv_at hl 1 rfl) ?_
            refine kcallv (wc := [(h, oX11 th aw ai ab ac hi re aP ta y72 en y73 de fa a5 sp av an ak ne aW aC ag aT aN aF), (aw, kcI cI 2179 (upd (upd fw (61 + 7 * cN r1) r7) (62 + 7 * cN r1) z31))]) (wr := [(aP, .inl (cB, 400, .inl ft))]) hP hD hS hA [1, 2] [0] rfl rfl (by decide) (by decide) (by decide) (fun hPc hDc hFc => va_runV (As := [.int r1, .int 2, .int z51]) (rest := []) ⟨hx, hb, hml, hown, hts⟩ (r_sets2x l D cI cJ cB cC h th aw ai ab ac hi re aP ta y72 en y73 de fa a5 sp av an ak ne aW aC ag aT aN aF (upd (upd fw (61 + 7 * cN r1) r7) (62 + 7 * cN r1) z31) r1 z51 H.size k6) (cwV 3 hts gX11_readShirt_X11_sets rfl rfl rfl ⟨rfl, hdX11_sets⟩ ⟨Nat.le_of_ble_eq_true rfl, Nat.le_of_ble_eq_true rfl⟩) ⟨kBlind, va_recv hK hPc (ci := 10) (q0 := 0) rfl rfl, fun U hU hW => ⟨rfl, by rw [hU], hN.warm hW, hE.pass hS hFc hW hU, by rw [hU]; exact hPc, va_K.moved hW.alike hK, hDc⟩⟩ rfl rfl hl.1 rfl (lv_room (Nat.le_of_ble_eq_true rfl)) dX11_readShirt_102 ⟨Nat.le_of_ble_eq_true rfl, Nat.le_of_ble_eq_true rfl⟩) (fun u H locs hw hP hD hS => ?_)
            have hP : va_P D vwCl [(aP, .inl (cB, 400, .inl ft)), (h, oX11 th aw ai ab ac hi re aP ta y72 en y73 de fa a5 sp av an ak ne aW aC ag aT aN aF), (aw, kcI cI 2179 (upd (upd (upd fw (61 + 7 * cN r1) r7) (62 + 7 * cN r1) z31) (63 + 7 * cN r1) z51))] H := hP
            have hD : va_D A [(aP, .inl (cB, 400, .inl ft)), (h, oX11 th aw ai ab ac hi re aP ta y72 en y73 de fa a5 sp av an ak ne aW aC ag aT aN aF), (aw, kcI cI 2179 (upd (upd (upd fw (61 + 7 * cN r1) r7) (62 + 7 * cN r1) z31) (63 + 7 * cN r1) z51))] := hD
            refine lv_aload_n hx hb dX11_readShirt_105 rfl (lv_at hl 5 rfl) ?_
            refine lv_iload_n hx hb dX11_readShirt_106 rfl (lv_at hl 4 rfl) ?_
            refine lv_iconst (v := 3) hx hb dX11_readShirt_107 (by decide) ?_
            refine lv_iload hx hb dX11_readShirt_108 (lv_at hl 0 rfl) ?_
            refine kcallv (wc := [(h, oX11 th aw ai ab ac hi re aP ta y72 en y73 de fa a5 sp av an ak ne aW aC ag aT aN aF), (aw, kcI cI 2179 (upd (upd (upd fw (61 + 7 * cN r1) r7) (62 + 7 * cN r1) z31) (63 + 7 * cN r1) z51))]) (wr := [(aP, .inl (cB, 400, .inl ft))]) hP hD hS hA [1, 2] [0] rfl rfl (by decide) (by decide) (by decide) (fun hPc hDc hFc => va_runV (As := [.int r1, .int 3, .int z71]) (rest := []) ⟨hx, hb, hml, hown, hts⟩ (r_sets3x l D cI cJ cB cC h th aw ai ab ac hi re aP ta y72 en y73 de fa a5 sp av an ak ne aW aC ag aT aN aF (upd (upd (upd fw (61 + 7 * cN r1) r7) (62 + 7 * cN r1) z31) (63 + 7 * cN r1) z51) r1 z71 H.size k6) (cwV 3 hts gX11_readShirt_X11_sets rfl rfl rfl ⟨rfl, hdX11_sets⟩ ⟨Nat.le_of_ble_eq_true rfl, Nat.le_of_ble_eq_true rfl⟩) ⟨kBlind, va_recv hK hPc (ci := 10) (q0 := 0) rfl rfl, fun U hU hW => ⟨rfl, by rw [hU], hN.warm hW, hE.pass hS hFc hW hU, by rw [hU]; exact hPc, va_K.moved hW.alike hK, hDc⟩⟩ rfl rfl hl.1 rfl (lv_room (Nat.le_of_ble_eq_true rfl)) dX11_readShirt_110 ⟨Nat.le_of_ble_eq_true rfl, Nat.le_of_ble_eq_true rfl⟩) (fun u H locs hw hP hD hS => ?_)
            have hP : va_P D vwCl [(aP, .inl (cB, 400, .inl ft)), (h, oX11 th aw ai ab ac hi re aP ta y72 en y73 de fa a5 sp av an ak ne aW aC ag aT aN aF), (aw, kcI cI 2179 (upd (upd (upd (upd fw (61 + 7 * cN r1) r7) (62 + 7 * cN r1) z31) (63 + 7 * cN r1) z51) (64 + 7 * cN r1) z71))] H := hP
            have hD : va_D A [(aP, .inl (cB, 400, .inl ft)), (h, oX11 th aw ai ab ac hi re aP ta y72 en y73 de fa a5 sp av an ak ne aW aC ag aT aN aF), (aw, kcI cI 2179 (upd (upd (upd (upd fw (61 + 7 * cN r1) r7) (62 + 7 * cN r1) z31) (63 + 7 * cN r1) z51) (64 + 7 * cN r1) z71))] := hD
            refine lv_aload_n hx hb dX11_readShirt_113 rfl (lv_at hl 5 rfl) ?_
            refine lv_iload_n hx hb dX11_readShirt_114 rfl (lv_at hl 4 rfl) ?_
            refine lv_iconst (v := 4) hx hb dX11_readShirt_115 (by decide) ?_
            refine lv_iload_n hx hb dX11_readShirt_116 rfl (lv_at hl 4 rfl) ?_
            refine kcallv (wc := [(h, oX11 th aw ai ab ac hi re aP ta y72 en y73 de fa a5 sp av an ak ne aW aC ag aT aN aF), (aw, kcI cI 2179 (upd (upd (upd (upd fw (61 + 7 * cN r1) r7) (62 + 7 * cN r1) z31) (63 + 7 * cN r1) z51) (64 + 7 * cN r1) z71))]) (wr := [(aP, .inl (cB, 400, .inl ft))]) hP hD hS hA [1, 2] [0] rfl rfl (by decide) (by decide) (by decide) (fun hPc hDc hFc => va_runV (As := [.int r1, .int 4, .int r1]) (rest := []) ⟨hx, hb, hml, hown, hts⟩ (r_sets4x l D cI cJ cB cC h th aw ai ab ac hi re aP ta y72 en y73 de fa a5 sp av an ak ne aW aC ag aT aN aF (upd (upd (upd (upd fw (61 + 7 * cN r1) r7) (62 + 7 * cN r1) z31) (63 + 7 * cN r1) z51) (64 + 7 * cN r1) z71) r1 r1 H.size k6) (cwV 3 hts gX11_readShirt_X11_sets rfl rfl rfl ⟨rfl, hdX11_sets⟩ ⟨Nat.le_of_ble_eq_true rfl, Nat.le_of_ble_eq_true rfl⟩) ⟨kBlind, va_recv hK hPc (ci := 10) (q0 := 0) rfl rfl, fun U hU hW => ⟨rfl, by rw [hU], hN.warm hW, hE.pass hS hFc hW hU, by rw [hU]; exact hPc, va_K.moved hW.alike hK, hDc⟩⟩ rfl rfl hl.1 rfl (lv_room (Nat.le_of_ble_eq_true rfl)) dX11_readShirt_117 ⟨Nat.le_of_ble_eq_true rfl, Nat.le_of_ble_eq_true rfl⟩) (fun u H locs hw hP hD hS => ?_)
            have hP : va_P D vwCl [(aP, .inl (cB, 400, .inl ft)), (h, oX11 th aw ai ab ac hi re aP ta y72 en y73 de fa a5 sp av an ak ne aW aC ag aT aN aF), (aw, kcI cI 2179 (upd (upd (upd (upd (upd fw (61 + 7 * cN r1) r7) (62 + 7 * cN r1) z31) (63 + 7 * cN r1) z51) (64 + 7 * cN r1) z71) (65 + 7 * cN r1) r1))] H := hP
            have hD : va_D A [(aP, .inl (cB, 400, .inl ft)), (h, oX11 th aw ai ab ac hi re aP ta y72 en y73 de fa a5 sp av an ak ne aW aC ag aT aN aF), (aw, kcI cI 2179 (upd (upd (upd (upd (upd fw (61 + 7 * cN r1) r7) (62 + 7 * cN r1) z31) (63 + 7 * cN r1) z51) (64 + 7 * cN r1) z71) (65 + 7 * cN r1) r1))] := hD
            refine lv_aload_n hx hb dX11_readShirt_120 rfl (lv_at hl 5 rfl) ?_
            refine lv_iload_n hx hb dX11_readShirt_121 rfl (lv_at hl 4 rfl) ?_
            refine lv_iconst (v := 5) hx hb dX11_readShirt_122 (by decide) ?_
            refine lv_iconst (v := (-1)) hx hb dX11_readShirt_123 (by decide) ?_
            refine kcallv (wc := [(h, oX11 th aw ai ab ac hi re aP ta y72 en y73 de fa a5 sp av an ak ne aW aC ag aT aN aF), (aw, kcI cI 2179 (upd (upd (upd (upd (upd fw (61 + 7 * cN r1) r7) (62 + 7 * cN r1) z31) (63 + 7 * cN r1) z51) (64 + 7 * cN r1) z71) (65 + 7 * cN r1) r1))]) (wr := [(aP, .inl (cB, 400, .inl ft))]) hP hD hS hA [1, 2] [0] rfl rfl (by decide) (by decide) (by decide) (fun hPc hDc hFc => va_runV (As := [.int r1, .int 5, .int (-1)]) (rest := []) ⟨hx, hb, hml, hown, hts⟩ (r_sets5x l D cI cJ cB cC h th aw ai ab ac hi re aP ta y72 en y73 de fa a5 sp av an ak ne aW aC ag aT aN aF (upd (upd (upd (upd (upd fw (61 + 7 * cN r1) r7) (62 + 7 * cN r1) z31) (63 + 7 * cN r1) z51) (64 + 7 * cN r1) z71) (65 + 7 * cN r1) r1) r1 (-1) H.size k6) (cwV 3 hts gX11_readShirt_X11_sets rfl rfl rfl ⟨rfl, hdX11_sets⟩ ⟨Nat.le_of_ble_eq_true rfl, Nat.le_of_ble_eq_true rfl⟩) ⟨kBlind, va_recv hK hPc (ci := 10) (q0 := 0) rfl rfl, fun U hU hW => ⟨rfl, by rw [hU], hN.warm hW, hE.pass hS hFc hW hU, by rw [hU]; exact hPc, va_K.moved hW.alike hK, hDc⟩⟩ rfl rfl hl.1 rfl (lv_room (Nat.le_of_ble_eq_true rfl)) dX11_readShirt_124 ⟨Nat.le_of_ble_eq_true rfl, Nat.le_of_ble_eq_true rfl⟩) (fun u H locs hw hP hD hS => ?_)
            have hP : va_P D vwCl [(aP, .inl (cB, 400, .inl ft)), (h, oX11 th aw ai ab ac hi re aP ta y72 en y73 de fa a5 sp av an ak ne aW aC ag aT aN aF), (aw, kcI cI 2179 (upd (upd (upd (upd (upd (upd fw (61 + 7 * cN r1) r7) (62 + 7 * cN r1) z31) (63 + 7 * cN r1) z51) (64 + 7 * cN r1) z71) (65 + 7 * cN r1) r1) (66 + 7 * cN r1) (-1)))] H := hP
            have hD : va_D A [(aP, .inl (cB, 400, .inl ft)), (h, oX11 th aw ai ab ac hi re aP ta y72 en y73 de fa a5 sp av an ak ne aW aC ag aT aN aF), (aw, kcI cI 2179 (upd (upd (upd (upd (upd (upd fw (61 + 7 * cN r1) r7) (62 + 7 * cN r1) z31) (63 + 7 * cN r1) z51) (64 + 7 * cN r1) z71) (65 + 7 * cN r1) r1) (66 + 7 * cN r1) (-1)))] := hD
            refine lv_aload_n hx hb dX11_readShirt_127 rfl (lv_at hl 5 rfl) ?_
            refine lv_iload_n hx hb dX11_readShirt_128 rfl (lv_at hl 4 rfl) ?_
            refine lv_bipush (v := 6) hx hb dX11_readShirt_129 (by decide) ?_
            refine lv_iconst (v := (-1)) hx hb dX11_readShirt_131 (by decide) ?_
            refine kcallv (wc := [(h, oX11 th aw ai ab ac hi re aP ta y72 en y73 de fa a5 sp av an ak ne aW aC ag aT aN aF), (aw, kcI cI 2179 (upd (upd (upd (upd (upd (upd fw (61 + 7 * cN r1) r7) (62 + 7 * cN r1) z31) (63 + 7 * cN r1) z51) (64 + 7 * cN r1) z71) (65 + 7 * cN r1) r1) (66 + 7 * cN r1) (-1)))]) (wr := [(aP, .inl (cB, 400, .inl ft))]) hP hD hS hA [1, 2] [0] rfl rfl (by decide) (by decide) (by decide) (fun hPc hDc hFc => va_runV (As := [.int r1, .int 6, .int (-1)]) (rest := []) ⟨hx, hb, hml, hown, hts⟩ (r_sets6x l D cI cJ cB cC h th aw ai ab ac hi re aP ta y72 en y73 de fa a5 sp av an ak ne aW aC ag aT aN aF (upd (upd (upd (upd (upd (upd fw (61 + 7 * cN r1) r7) (62 + 7 * cN r1) z31) (63 + 7 * cN r1) z51) (64 + 7 * cN r1) z71) (65 + 7 * cN r1) r1) (66 + 7 * cN r1) (-1)) r1 (-1) H.size k6) (cwV 3 hts gX11_readShirt_X11_sets rfl rfl rfl ⟨rfl, hdX11_sets⟩ ⟨Nat.le_of_ble_eq_true rfl, Nat.le_of_ble_eq_true rfl⟩) ⟨kBlind, va_recv hK hPc (ci := 10) (q0 := 0) rfl rfl, fun U hU hW => ⟨rfl, by rw [hU], hN.warm hW, hE.pass hS hFc hW hU, by rw [hU]; exact hPc, va_K.moved hW.alike hK, hDc⟩⟩ rfl rfl hl.1 rfl (lv_room (Nat.le_of_ble_eq_true rfl)) dX11_readShirt_132 ⟨Nat.le_of_ble_eq_true rfl, Nat.le_of_ble_eq_true rfl⟩) (fun u H locs hw hP hD hS => ?_)
            have hP : va_P D vwCl [(aP, .inl (cB, 400, .inl ft)), (h, oX11 th aw ai ab ac hi re aP ta y72 en y73 de fa a5 sp av an ak ne aW aC ag aT aN aF), (aw, kcI cI 2179 (upd (upd (upd (upd (upd (upd (upd fw (61 + 7 * cN r1) r7) (62 + 7 * cN r1) z31) (63 + 7 * cN r1) z51) (64 + 7 * cN r1) z71) (65 + 7 * cN r1) r1) (66 + 7 * cN r1) (-1)) (67 + 7 * cN r1) (-1)))] H := hP
            have hD : va_D A [(aP, .inl (cB, 400, .inl ft)), (h, oX11 th aw ai ab ac hi re aP ta y72 en y73 de fa a5 sp av an ak ne aW aC ag aT aN aF), (aw, kcI cI 2179 (upd (upd (upd (upd (upd (upd (upd fw (61 + 7 * cN r1) r7) (62 + 7 * cN r1) z31) (63 + 7 * cN r1) z51) (64 + 7 * cN r1) z71) (65 + 7 * cN r1) r1) (66 + 7 * cN r1) (-1)) (67 + 7 * cN r1) (-1)))] := hD
            refine lv_aload_n hx hb dX11_readShirt_135 rfl (lv_at hl 5 rfl) ?_
            refine va_get (D := D) (ci := 10) (v := .ref aw) (C := RX11) (T := TX11) (N := 26) hx hb hts iG_X11 hown hK hP 1 rfl rfl 1 (by decide) (hts _ w5_3) (fun _ h9 => h9) rfl dX11_readShirt_136 ?_
            refine lv_iconst (v := 1) hx hb dX11_readShirt_139 (by decide) ?_
            refine lv_dup2_11 hx hb dX11_readShirt_140 rfl rfl ?_
            refine va_iald hx hb hK hP 2 0 rfl rfl (rg_in (rg_lit (n := 1) (by decide)) (by decide)) dX11_readShirt_141 ?_
            refine lv_topi (fun x76 ex76 => ?_)
            have k78 : Rg x76 0 11 := (by have q1 : x76 = r1 := (by rw [ex76]; exact (shN_out (g := fw) (s := r1) (c0 := r7) (c1 := z31) (c2 := z51) (c3 := z71) (j := 1) (by omega)).trans k2.symm); rw [q1]; exact k6)
            refine lv_iconst (v := 1) hx hb dX11_readShirt_142 (by decide) ?_
            refine lv_iadd hx hb dX11_readShirt_143 ?_
            refine lv_topi (fun x79 ex79 => ?_)
            have tx79 : x79.toInt = x76.toInt + 1 := ti_add ex79 k78 (rg_lit (n := 1) (by decide)) (by decide) rfl (by decide)
            have k80 : Rg x79 1 12 := rg_add ex79 k78 (rg_lit (n := 1) (by decide)) (by decide)
            refine va_iast hx hb hK hP hD hS 2 0 rfl rfl (rg_in (rg_lit (n := 1) (by decide)) (by decide)) dX11_readShirt_144 (fun H locs hP hD hS => ?_)
            have hP : va_P D vwCl [(aP, .inl (cB, 400, .inl ft)), (h, oX11 th aw ai ab ac hi re aP ta y72 en y73 de fa a5 sp av an ak ne aW aC ag aT aN aF), (aw, kcI cI 2179 (upd (upd (upd (upd (upd (upd (upd (upd fw (61 + 7 * cN r1) r7) (62 + 7 * cN r1) z31) (63 + 7 * cN r1) z51) (64 + 7 * cN r1) z71) (65 + 7 * cN r1) r1) (66 + 7 * cN r1) (-1)) (67 + 7 * cN r1) (-1)) (1 : Int32).toNatClampNeg x79))] H := hP
            have hD : va_D A [(aP, .inl (cB, 400, .inl ft)), (h, oX11 th aw ai ab ac hi re aP ta y72 en y73 de fa a5 sp av an ak ne aW aC ag aT aN aF), (aw, kcI cI 2179 (upd (upd (upd (upd (upd (upd (upd (upd fw (61 + 7 * cN r1) r7) (62 + 7 * cN r1) z31) (63 + 7 * cN r1) z51) (64 + 7 * cN r1) z71) (65 + 7 * cN r1) r1) (66 + 7 * cN r1) (-1)) (67 + 7 * cN r1) (-1)) (1 : Int32).toNatClampNeg x79))] := hD
            have k82 := shN_new (c0 := r7) (c1 := z31) (c2 := z51) (c3 := z71) H_fw_W H_fw_B H_fw_L k2 k6 ex76 (ti_add (Y := 1) ex79 k78 (rg_lit (n := 1) (by decide)) (by decide) rfl (by decide))
            have k85 : wW (upd (upd (upd (upd (upd (upd (upd (upd fw (61 + 7 * cN r1) r7) (62 + 7 * cN r1) z31) (63 + 7 * cN r1) z51) (64 + 7 * cN r1) z71) (65 + 7 * cN r1) r1) (66 + 7 * cN r1) (-1)) (67 + 7 * cN r1) (-1)) (1 : Int32).toNatClampNeg x79) := k82.1.1
            have k83 : wB (upd (upd (upd (upd (upd (upd (upd (upd fw (61 + 7 * cN r1) r7) (62 + 7 * cN r1) z31) (63 + 7 * cN r1) z51) (64 + 7 * cN r1) z71) (65 + 7 * cN r1) r1) (66 + 7 * cN r1) (-1)) (67 + 7 * cN r1) (-1)) (1 : Int32).toNatClampNeg x79) := k82.1.2
            have k84 : wL (upd (upd (upd (upd (upd (upd (upd (upd fw (61 + 7 * cN r1) r7) (62 + 7 * cN r1) z31) (63 + 7 * cN r1) z51) (64 + 7 * cN r1) z71) (65 + 7 * cN r1) r1) (66 + 7 * cN r1) (-1)) (67 + 7 * cN r1) (-1)) (1 : Int32).toNatClampNeg x79) := k82.2
            clear k82
            generalize hg81 : (upd (upd (upd (upd (upd (upd (upd (upd fw (61 + 7 * cN r1) r7) (62 + 7 * cN r1) z31) (63 + 7 * cN r1) z51) (64 + 7 * cN r1) z71) (65 + 7 * cN r1) r1) (66 + 7 * cN r1) (-1)) (67 + 7 * cN r1) (-1)) (1 : Int32).toNatClampNeg x79) = g81 at hP hD k85 k83 k84
            refine lv_iconst (v := 1) hx hb dX11_readShirt_145 (by decide) ?_
            have hP9 := hP.sub (ws' := [(h, oX11 th aw ai ab ac hi re aP ta y72 en y73 de fa a5 sp av an ak ne aW aC ag aT aN aF), (aw, kcI cI 2179 g81), (aP, .inl (cB, 400, .inl ft))]) [1, 2, 0] rfl
            have hD9 := hD.sub (ws' := [(h, oX11 th aw ai ab ac hi re aP ta y72 en y73 de fa a5 sp av an ak ne aW aC ag aT aN aF), (aw, kcI cI 2179 g81), (aP, .inl (cB, 400, .inl ft))]) [1, 2, 0] (by decide) rfl
            exact W.zret (v := 1) hx hb hr (by decide) (fun t ht hW => ⟨⟨1, (y72, y73, g81), rfl, ⟨hy72, k83, k84, k85, (hF3.trans (kif_t (leI c74) (kLet_eq (gT_upd (gT_upd (gT_upd (gT_upd (gT_upd (gT_upd (gT_upd rfl))))))) (kLet_eq (ke_ld ex76) (kLet_eq (ti_add ex79 k78 (rg_lit (n := 1) (by decide)) (by decide) rfl rfl) (kLet_eq (gT_upd (gT_upd (gT_upd (gT_upd (gT_upd (gT_upd (gT_upd (gT_upd rfl)))))))) (kLet_eq (congrArg gT hg81).symm rfl))))))), (Or.inr rfl)⟩, by rw [ht]; exact hP9, va_K.moved hW.alike hK, hD9⟩, hS.F ht⟩) hS.2.2 dX11_readShirt_146
          · skip
            have k87 : Rg z71 (-1) (-1) := rg_l1 (nleI c74) hz71 (rg_lit (n := 0) (by decide)) (by decide)
            refine lv_iconst (v := 0) hx hb dX11_readShirt_81 (by decide) ?_
            have hP9 := hP.sub (ws' := [(h, oX11 th aw ai ab ac hi re aP ta y72 en y73 de fa a5 sp av an ak ne aW aC ag aT aN aF), (aw, kcI cI 2179 fw), (aP, .inl (cB, 400, .inl ft))]) [1, 0, 2] rfl
            have hD9 := hD.sub (ws' := [(h, oX11 th aw ai ab ac hi re aP ta y72 en y73 de fa a5 sp av an ak ne aW aC ag aT aN aF), (aw, kcI cI 2179 fw), (aP, .inl (cB, 400, .inl ft))]) [1, 0, 2] (by decide) rfl
            exact W.zret (v := 0) hx hb hr (by decide) (fun t ht hW => ⟨⟨0, (y72, y73, fw), rfl, ⟨hy72, H_fw_B, H_fw_L, H_fw_W, (hF3.trans (kif_f (xF_le c74) rfl)), (Or.inl rfl)⟩, by rw [ht]; exact hP9, va_K.moved hW.alike hK, hD9⟩, hS.F ht⟩) hS.2.2 dX11_readShirt_82
        refine lv_if_ge (tgt := 65) hx hb dX11_readShirt_58 (by decide) (fun c88 => ?_) (fun c88 => ?_)
        · skip
          have k89 : Rg z51 0 99 := rg_e2 (leI c88) (rg_lit (n := 0) (by decide)) hz51 (by decide)
          refine lv_aload_n hx hb dX11_readShirt_65 rfl (lv_at hl 4 rfl) ?_
          obtain ⟨q90, q91, hR92, hT93⟩ := kTx_11 hE.2.2
          refine va_ldcS hx hb hown hR92 dX11_readShirt_66 ?_
          refine lv_iconst (v := 0) hx hb dX11_readShirt_68 (by decide) ?_
          refine lv_bipush (v := 9) hx hb dX11_readShirt_69 (by decide) ?_
          refine kcalli (wc := [(h, oX11 th aw ai ab ac hi re aP ta y52 en y53 de fa a5 sp av an ak ne aW aC ag aT aN aF), (aP, .inl (cB, 400, .inl ft))]) (wr := [(aw, kcI cI 2179 fw)]) hP hD hS hA [1, 2] [0] rfl rfl (by decide) (by decide) (by decide) (fun hPc hDc hFc => va_runV (As := [.ref q90, .int 0, .int 9]) (rest := []) ⟨hx, hb, hml, hown, hts⟩ (r_after_9 l D cI cJ cB cC h th aw ai ab ac hi re aP ta y52 en y53 de fa a5 sp av an ak ne aW aC ag aT aN aF ft q90 kSb11 q91 H.size hy52 H_en kSb11_le) (cwV 3 hts gX11_readShirt_X11_after rfl rfl rfl ⟨rfl, hdX11_after⟩ ⟨Nat.le_of_ble_eq_true rfl, Nat.le_of_ble_eq_true rfl⟩) ⟨kBlindT, va_recv hK hPc (ci := 10) (q0 := 0) rfl rfl, fun U hU hW => ⟨rfl, by rw [hU], hN.warm hW, hE.pass hS hFc hW hU, hT93.pass hS hFc hW hU, by rw [hU]; exact hPc, va_K.moved hW.alike hK, hDc⟩⟩ rfl rfl hl.1 rfl (lv_room (Nat.le_of_ble_eq_true rfl)) dX11_readShirt_71 ⟨Nat.le_of_ble_eq_true rfl, Nat.le_of_ble_eq_true rfl⟩) (fun r94 u H locs hw hP hD hS => ?_)
          obtain ⟨x95, x96⟩ := u
          have hP : va_P D vwCl [(aw, kcI cI 2179 fw), (h, oX11 th aw ai ab ac hi re aP ta x95 en x96 de fa a5 sp av an ak ne aW aC ag aT aN aF), (aP, .inl (cB, 400, .inl ft))] H := hP
          have hD : va_D A [(aw, kcI cI 2179 fw), (h, oX11 th aw ai ab ac hi re aP ta x95 en x96 de fa a5 sp av an ak ne aW aC ag aT aN aF), (aP, .inl (cB, 400, .inl ft))] := hD
          obtain ⟨k97, k98, k99, k100⟩ := hw
          exact hJ74 (r94, x95, x96) _ _ _ ⟨(hF2.trans (kif_t (leI c88) (kC_eq k100 (kC_eq rfl rfl)))), k99, k97, k98, hP.sub (ws' := [(aw, kcI cI 2179 fw), (h, oX11 th aw ai ab ac hi re aP ta x95 en x96 de fa a5 sp av an ak ne aW aC ag aT aN aF), (aP, .inl (cB, 400, .inl ft))]) [0, 1, 2] rfl, hD.sub (ws' := [(aw, kcI cI 2179 fw), (h, oX11 th aw ai ab ac hi re aP ta x95 en x96 de fa a5 sp av an ak ne aW aC ag aT aN aF), (aP, .inl (cB, 400, .inl ft))]) [0, 1, 2] (by decide) rfl, hS, lv_sub (l' := [(4, .int z51), (3, .int z31), (2, .int r7), (1, .int r1), (0, .ref h)]) hl [0, 1, 2, 3, 4] rfl⟩
        · skip
          have k101 : Rg z51 (-1) (-1) := rg_l1 (nleI c88) hz51 (rg_lit (n := 0) (by decide)) (by decide)
          refine lv_iconst (v := (-1)) hx hb dX11_readShirt_61 (by decide) ?_
          refine lv_goto (tgt := 74) hx hb dX11_readShirt_62 (by decide) ?_
          exact hJ74 ((-1 : Int32), y52, y53) _ _ _ ⟨(hF2.trans (kif_f (xF_le c88) rfl)), (rg_w (rg_lit (n := -1) (by decide)) (by decide)), hy52, hy53, hP.sub (ws' := [(aw, kcI cI 2179 fw), (h, oX11 th aw ai ab ac hi re aP ta y52 en y53 de fa a5 sp av an ak ne aW aC ag aT aN aF), (aP, .inl (cB, 400, .inl ft))]) [0, 1, 2] rfl, hD.sub (ws' := [(aw, kcI cI 2179 fw), (h, oX11 th aw ai ab ac hi re aP ta y52 en y53 de fa a5 sp av an ak ne aW aC ag aT aN aF), (aP, .inl (cB, 400, .inl ft))]) [0, 1, 2] (by decide) rfl, hS, lv_sub (l' := [(4, .int z51), (3, .int z31), (2, .int r7), (1, .int r1), (0, .ref h)]) hl [0, 1, 2, 3, 4] rfl⟩
      refine lv_if_ge (tgt := 45) hx hb dX11_readShirt_38 (by decide) (fun c102 => ?_) (fun c102 => ?_)
      · skip
        have k103 : Rg z31 0 999 := rg_e2 (leI c102) (rg_lit (n := 0) (by decide)) hz31 (by decide)
        refine lv_aload_n hx hb dX11_readShirt_45 rfl (lv_at hl 3 rfl) ?_
        obtain ⟨q104, q105, hR106, hT107⟩ := kTx_10 hE.2.2
        refine va_ldcS hx hb hown hR106 dX11_readShirt_46 ?_
        refine lv_iconst (v := 0) hx hb dX11_readShirt_48 (by decide) ?_
        refine lv_bipush (v := 99) hx hb dX11_readShirt_49 (by decide) ?_
        refine kcalli (wc := [(h, oX11 th aw ai ab ac hi re aP ta y32 en y33 de fa a5 sp av an ak ne aW aC ag aT aN aF), (aP, .inl (cB, 400, .inl ft))]) (wr := [(aw, kcI cI 2179 fw)]) hP hD hS hA [1, 2] [0] rfl rfl (by decide) (by decide) (by decide) (fun hPc hDc hFc => va_runV (As := [.ref q104, .int 0, .int 99]) (rest := []) ⟨hx, hb, hml, hown, hts⟩ (r_after_99 l D cI cJ cB cC h th aw ai ab ac hi re aP ta y32 en y33 de fa a5 sp av an ak ne aW aC ag aT aN aF ft q104 kSb10 q105 H.size hy32 H_en kSb10_le) (cwV 3 hts gX11_readShirt_X11_after rfl rfl rfl ⟨rfl, hdX11_after⟩ ⟨Nat.le_of_ble_eq_true rfl, Nat.le_of_ble_eq_true rfl⟩) ⟨kBlindT, va_recv hK hPc (ci := 10) (q0 := 0) rfl rfl, fun U hU hW => ⟨rfl, by rw [hU], hN.warm hW, hE.pass hS hFc hW hU, hT107.pass hS hFc hW hU, by rw [hU]; exact hPc, va_K.moved hW.alike hK, hDc⟩⟩ rfl rfl hl.1 rfl (lv_room (Nat.le_of_ble_eq_true rfl)) dX11_readShirt_51 ⟨Nat.le_of_ble_eq_true rfl, Nat.le_of_ble_eq_true rfl⟩) (fun r108 u H locs hw hP hD hS => ?_)
        obtain ⟨x109, x110⟩ := u
        have hP : va_P D vwCl [(aw, kcI cI 2179 fw), (h, oX11 th aw ai ab ac hi re aP ta x109 en x110 de fa a5 sp av an ak ne aW aC ag aT aN aF), (aP, .inl (cB, 400, .inl ft))] H := hP
        have hD : va_D A [(aw, kcI cI 2179 fw), (h, oX11 th aw ai ab ac hi re aP ta x109 en x110 de fa a5 sp av an ak ne aW aC ag aT aN aF), (aP, .inl (cB, 400, .inl ft))] := hD
        obtain ⟨k111, k112, k113, k114⟩ := hw
        exact hJ54 (r108, x109, x110) _ _ _ ⟨(hF1.trans (kif_t (leI c102) (kC_eq k114 (kC_eq rfl rfl)))), k113, k111, k112, hP.sub (ws' := [(aw, kcI cI 2179 fw), (h, oX11 th aw ai ab ac hi re aP ta x109 en x110 de fa a5 sp av an ak ne aW aC ag aT aN aF), (aP, .inl (cB, 400, .inl ft))]) [0, 1, 2] rfl, hD.sub (ws' := [(aw, kcI cI 2179 fw), (h, oX11 th aw ai ab ac hi re aP ta x109 en x110 de fa a5 sp av an ak ne aW aC ag aT aN aF), (aP, .inl (cB, 400, .inl ft))]) [0, 1, 2] (by decide) rfl, hS, lv_sub (l' := [(3, .int z31), (2, .int r7), (1, .int r1), (0, .ref h)]) hl [0, 1, 2, 3] rfl⟩
      · skip
        have k115 : Rg z31 (-1) (-1) := rg_l1 (nleI c102) hz31 (rg_lit (n := 0) (by decide)) (by decide)
        refine lv_iconst (v := (-1)) hx hb dX11_readShirt_41 (by decide) ?_
        refine lv_goto (tgt := 54) hx hb dX11_readShirt_42 (by decide) ?_
        exact hJ54 ((-1 : Int32), y32, y33) _ _ _ ⟨(hF1.trans (kif_f (xF_le c102) rfl)), (rg_w (rg_lit (n := -1) (by decide)) (by decide)), hy32, hy33, hP.sub (ws' := [(aw, kcI cI 2179 fw), (h, oX11 th aw ai ab ac hi re aP ta y32 en y33 de fa a5 sp av an ak ne aW aC ag aT aN aF), (aP, .inl (cB, 400, .inl ft))]) [0, 1, 2] rfl, hD.sub (ws' := [(aw, kcI cI 2179 fw), (h, oX11 th aw ai ab ac hi re aP ta y32 en y33 de fa a5 sp av an ak ne aW aC ag aT aN aF), (aP, .inl (cB, 400, .inl ft))]) [0, 1, 2] (by decide) rfl, hS, lv_sub (l' := [(3, .int z31), (2, .int r7), (1, .int r1), (0, .ref h)]) hl [0, 1, 2, 3] rfl⟩
    refine lv_if_ge (tgt := 26) hx hb dX11_readShirt_19 (by decide) (fun c116 => ?_) (fun c116 => ?_)
    · skip
      have k117 : Rg r7 0 2 := rg_e2 (leI c116) (rg_lit (n := 0) (by decide)) k12 (by decide)
      refine lv_aload_n hx hb dX11_readShirt_26 rfl (lv_at hl 2 rfl) ?_
      obtain ⟨q118, q119, hR120, hT121⟩ := kTx_9 hE.2.2
      refine va_ldcS hx hb hown hR120 dX11_readShirt_27 ?_
      refine lv_iconst (v := 0) hx hb dX11_readShirt_29 (by decide) ?_
      refine lv_sipush (v := 999) hx hb dX11_readShirt_30 (by decide) ?_
      refine kcalli (wc := [(h, oX11 th aw ai ab ac hi re aP ta x8 en x9 de fa a5 sp av an ak ne aW aC ag aT aN aF), (aP, .inl (cB, 400, .inl ft))]) (wr := [(aw, kcI cI 2179 fw)]) hP hD hS hA [1, 2] [0] rfl rfl (by decide) (by decide) (by decide) (fun hPc hDc hFc => va_runV (As := [.ref q118, .int 0, .int 999]) (rest := []) ⟨hx, hb, hml, hown, hts⟩ (r_after_999 l D cI cJ cB cC h th aw ai ab ac hi re aP ta x8 en x9 de fa a5 sp av an ak ne aW aC ag aT aN aF ft q118 kSb9 q119 H.size k10 H_en kSb9_le) (cwV 3 hts gX11_readShirt_X11_after rfl rfl rfl ⟨rfl, hdX11_after⟩ ⟨Nat.le_of_ble_eq_true rfl, Nat.le_of_ble_eq_true rfl⟩) ⟨kBlindT, va_recv hK hPc (ci := 10) (q0 := 0) rfl rfl, fun U hU hW => ⟨rfl, by rw [hU], hN.warm hW, hE.pass hS hFc hW hU, hT121.pass hS hFc hW hU, by rw [hU]; exact hPc, va_K.moved hW.alike hK, hDc⟩⟩ rfl rfl hl.1 rfl (lv_room (Nat.le_of_ble_eq_true rfl)) dX11_readShirt_33 ⟨Nat.le_of_ble_eq_true rfl, Nat.le_of_ble_eq_true rfl⟩) (fun r122 u H locs hw hP hD hS => ?_)
      obtain ⟨x123, x124⟩ := u
      have hP : va_P D vwCl [(aw, kcI cI 2179 fw), (h, oX11 th aw ai ab ac hi re aP ta x123 en x124 de fa a5 sp av an ak ne aW aC ag aT aN aF), (aP, .inl (cB, 400, .inl ft))] H := hP
      have hD : va_D A [(aw, kcI cI 2179 fw), (h, oX11 th aw ai ab ac hi re aP ta x123 en x124 de fa a5 sp av an ak ne aW aC ag aT aN aF), (aP, .inl (cB, 400, .inl ft))] := hD
      obtain ⟨k125, k126, k127, k128⟩ := hw
      exact hJ36 (r122, x123, x124) _ _ _ ⟨(kLet_eq (k4).symm (kif_f (neI c5) (kC_eq k13 (kC_eq rfl (kif_t (leI c116) (kC_eq k128 (kC_eq rfl rfl))))))), k127, k125, k126, hP.sub (ws' := [(aw, kcI cI 2179 fw), (h, oX11 th aw ai ab ac hi re aP ta x123 en x124 de fa a5 sp av an ak ne aW aC ag aT aN aF), (aP, .inl (cB, 400, .inl ft))]) [0, 1, 2] rfl, hD.sub (ws' := [(aw, kcI cI 2179 fw), (h, oX11 th aw ai ab ac hi re aP ta x123 en x124 de fa a5 sp av an ak ne aW aC ag aT aN aF), (aP, .inl (cB, 400, .inl ft))]) [0, 1, 2] (by decide) rfl, hS, lv_sub (l' := [(2, .int r7), (1, .int r1), (0, .ref h)]) hl [0, 1, 2] rfl⟩
    · skip
      have k129 : Rg r7 (-1) (-1) := rg_l1 (nleI c116) k12 (rg_lit (n := 0) (by decide)) (by decide)
      refine lv_iconst (v := (-1)) hx hb dX11_readShirt_22 (by decide) ?_
      refine lv_goto (tgt := 36) hx hb dX11_readShirt_23 (by decide) ?_
      exact hJ36 ((-1 : Int32), x8, x9) _ _ _ ⟨(kLet_eq (k4).symm (kif_f (neI c5) (kC_eq k13 (kC_eq rfl (kif_f (xF_le c116) rfl))))), (rg_w (rg_lit (n := -1) (by decide)) (by decide)), k10, k11, hP.sub (ws' := [(aw, kcI cI 2179 fw), (h, oX11 th aw ai ab ac hi re aP ta x8 en x9 de fa a5 sp av an ak ne aW aC ag aT aN aF), (aP, .inl (cB, 400, .inl ft))]) [0, 1, 2] rfl, hD.sub (ws' := [(aw, kcI cI 2179 fw), (h, oX11 th aw ai ab ac hi re aP ta x8 en x9 de fa a5 sp av an ak ne aW aC ag aT aN aF), (aP, .inl (cB, 400, .inl ft))]) [0, 1, 2] (by decide) rfl, hS, lv_sub (l' := [(2, .int r7), (1, .int r1), (0, .ref h)]) hl [0, 1, 2] rfl⟩
  · skip
    have k130 : Rg r1 12 12 := rg_q1 (eqI c5) k3 (rg_lit (n := 12) (by decide)) (by decide)
    refine lv_iconst (v := 0) hx hb dX11_readShirt_11 (by decide) ?_
    have hP9 := hP.sub (ws' := [(h, oX11 th aw ai ab ac hi re aP ta po en be de fa a5 sp av an ak ne aW aC ag aT aN aF), (aw, kcI cI 2179 fw), (aP, .inl (cB, 400, .inl ft))]) [0, 1, 2] rfl
    have hD9 := hD.sub (ws' := [(h, oX11 th aw ai ab ac hi re aP ta po en be de fa a5 sp av an ak ne aW aC ag aT aN aF), (aw, kcI cI 2179 fw), (aP, .inl (cB, 400, .inl ft))]) [0, 1, 2] (by decide) rfl
    exact W.zret (v := 0) hx hb hr (by decide) (fun t ht hW => ⟨⟨0, (po, be, fw), rfl, ⟨H_po, H_fw_B, H_fw_L, H_fw_W, (kLet_eq (k4).symm (kif_t (eqI c5) rfl)), (Or.inl rfl)⟩, by rw [ht]; exact hP9, va_K.moved hW.alike hK, hD9⟩, hS.F ht⟩) hS.2.2 dX11_readShirt_12

def kwX11_readWears : List Cond := .code yX11_readWears cX11_readWears 3 (some .boolean) :: kG
theorem hdX11_readWears : yX11_readWears.cls ≠ "java/lang/invoke/MethodHandle" ∧ yX11_readWears.cls ≠ "java/lang/invoke/VarHandle" ∧ (parseMethodDescriptor yX11_readWears.desc).map (fun d => d.parameters.length) = some 0 := by decide +kernel
theorem gX11_readWears_X11_men : GoodIn kG (wsV RX11 71 RX11 yX11_men kwX11_men) := gK w19_17 (gK w19_18 (gK w19_19 (gK w0_5 (gK w19_20 gGG))))
theorem gX11_readWears_X11_number : GoodIn kG (wsV RX11 118 RX11 yX11_number kwX11_number) := gK w19_21 (gK w19_22 (gK w19_23 (gK w0_5 (gK w20_0 gGG))))
theorem gX11_readWears_X11_of : GoodIn kG (wsV RX11 156 RX11 yX11_of kwX11_of) := gK w21_9 (gK w21_10 (gK w21_11 (gK w0_5 (gK w21_12 gGG))))
theorem gX11_readWears_X11_ofMan : GoodIn kG (wsV RX11 153 RX11 yX11_ofMan kwX11_ofMan) := gK w21_5 (gK w21_6 (gK w21_7 (gK w0_5 (gK w21_8 gGG))))
theorem gX11_readWears_X11_sets : GoodIn kG (wsV RX11 150 RX11 yX11_sets kwX11_sets) := gK w20_21 (gK w20_22 (gK w20_23 (gK w0_5 (gK w21_0 gGG))))
theorem gX11_readWears_X11_setsMan : GoodIn kG (wsV RX11 141 RX11 yX11_setsMan kwX11_setsMan) := gK w20_9 (gK w20_10 (gK w20_11 (gK w0_5 (gK w20_12 gGG))))
theorem gX11_readWears_X11_shirts : GoodIn kG (wsV RX11 79 RX11 yX11_shirts kwX11_shirts) := gK w20_17 (gK w20_18 (gK w20_19 (gK w0_5 (gK w20_20 gGG))))
theorem dX11_readWears_0 : decode cX11_readWears 0 = .ok (.aload_n 0, 1) := by decide +kernel
theorem dX11_readWears_1 : decode cX11_readWears 1 = .ok (.iconst 0, 1) := by decide +kernel
theorem dX11_readWears_2 : decode cX11_readWears 2 = .ok (.aload_n 0, 1) := by decide +kernel
theorem dX11_readWears_3 : decode cX11_readWears 3 = .ok (.invokevirtual 71, 3) := by decide +kernel
theorem dX11_readWears_6 : decode cX11_readWears 6 = .ok (.iconst 1, 1) := by decide +kernel
theorem dX11_readWears_7 : decode cX11_readWears 7 = .ok (.isub, 1) := by decide +kernel
theorem dX11_readWears_8 : decode cX11_readWears 8 = .ok (.invokevirtual 118, 3) := by decide +kernel
theorem dX11_readWears_11 : decode cX11_readWears 11 = .ok (.istore_n 1, 1) := by decide +kernel
theorem dX11_readWears_12 : decode cX11_readWears 12 = .ok (.iload_n 1, 1) := by decide +kernel
theorem dX11_readWears_13 : decode cX11_readWears 13 = .ok (.ifCond .lt 12, 3) := by decide +kernel
theorem dX11_readWears_16 : decode cX11_readWears 16 = .ok (.aload_n 0, 1) := by decide +kernel
theorem dX11_readWears_17 : decode cX11_readWears 17 = .ok (.iload_n 1, 1) := by decide +kernel
theorem dX11_readWears_18 : decode cX11_readWears 18 = .ok (.iconst 4, 1) := by decide +kernel
theorem dX11_readWears_19 : decode cX11_readWears 19 = .ok (.invokevirtual 153, 3) := by decide +kernel
theorem dX11_readWears_22 : decode cX11_readWears 22 = .ok (.ifCond .lt 5, 3) := by decide +kernel
theorem dX11_readWears_25 : decode cX11_readWears 25 = .ok (.iconst 0, 1) := by decide +kernel
theorem dX11_readWears_26 : decode cX11_readWears 26 = .ok (.ireturn, 1) := by decide +kernel
theorem dX11_readWears_27 : decode cX11_readWears 27 = .ok (.aload_n 0, 1) := by decide +kernel
theorem dX11_readWears_28 : decode cX11_readWears 28 = .ok (.iconst 0, 1) := by decide +kernel
theorem dX11_readWears_29 : decode cX11_readWears 29 = .ok (.aload_n 0, 1) := by decide +kernel
theorem dX11_readWears_30 : decode cX11_readWears 30 = .ok (.invokevirtual 79, 3) := by decide +kernel
theorem dX11_readWears_33 : decode cX11_readWears 33 = .ok (.iconst 1, 1) := by decide +kernel
theorem dX11_readWears_34 : decode cX11_readWears 34 = .ok (.isub, 1) := by decide +kernel
theorem dX11_readWears_35 : decode cX11_readWears 35 = .ok (.invokevirtual 118, 3) := by decide +kernel
theorem dX11_readWears_38 : decode cX11_readWears 38 = .ok (.istore_n 2, 1) := by decide +kernel
theorem dX11_readWears_39 : decode cX11_readWears 39 = .ok (.iload_n 2, 1) := by decide +kernel
theorem dX11_readWears_40 : decode cX11_readWears 40 = .ok (.ifCond .lt 12, 3) := by decide +kernel
theorem dX11_readWears_43 : decode cX11_readWears 43 = .ok (.aload_n 0, 1) := by decide +kernel
theorem dX11_readWears_44 : decode cX11_readWears 44 = .ok (.iload_n 2, 1) := by decide +kernel
theorem dX11_readWears_45 : decode cX11_readWears 45 = .ok (.iconst 5, 1) := by decide +kernel
theorem dX11_readWears_46 : decode cX11_readWears 46 = .ok (.invokevirtual 156, 3) := by decide +kernel
theorem dX11_readWears_49 : decode cX11_readWears 49 = .ok (.ifCond .lt 5, 3) := by decide +kernel
theorem dX11_readWears_52 : decode cX11_readWears 52 = .ok (.iconst 0, 1) := by decide +kernel
theorem dX11_readWears_53 : decode cX11_readWears 53 = .ok (.ireturn, 1) := by decide +kernel
theorem dX11_readWears_54 : decode cX11_readWears 54 = .ok (.aload_n 0, 1) := by decide +kernel
theorem dX11_readWears_55 : decode cX11_readWears 55 = .ok (.iload_n 1, 1) := by decide +kernel
theorem dX11_readWears_56 : decode cX11_readWears 56 = .ok (.iconst 4, 1) := by decide +kernel
theorem dX11_readWears_57 : decode cX11_readWears 57 = .ok (.iload_n 2, 1) := by decide +kernel
theorem dX11_readWears_58 : decode cX11_readWears 58 = .ok (.invokevirtual 141, 3) := by decide +kernel
theorem dX11_readWears_61 : decode cX11_readWears 61 = .ok (.aload_n 0, 1) := by decide +kernel
theorem dX11_readWears_62 : decode cX11_readWears 62 = .ok (.iload_n 2, 1) := by decide +kernel
theorem dX11_readWears_63 : decode cX11_readWears 63 = .ok (.iconst 5, 1) := by decide +kernel
theorem dX11_readWears_64 : decode cX11_readWears 64 = .ok (.iload_n 1, 1) := by decide +kernel
theorem dX11_readWears_65 : decode cX11_readWears 65 = .ok (.invokevirtual 150, 3) := by decide +kernel
theorem dX11_readWears_68 : decode cX11_readWears 68 = .ok (.iconst 1, 1) := by decide +kernel
theorem dX11_readWears_69 : decode cX11_readWears 69 = .ok (.ireturn, 1) := by decide +kernel
set_option maxHeartbeats 4000000 in
set_option maxRecDepth 100000 in
/-- reference: readWears -/
theorem r_readWears (l : Launch) (D : va_G) (cI cJ cB cC : ClassId) (h : Nat) (th : Int32) (aw : Nat) (ai : Nat) (ab : Nat) (ac : Nat) (hi : Int32) (re : Int32) (aP : Nat) (ta : Int32) (po : Int32) (en : Int32) (be : Int32) (de : Int32) (fa : Int32) (a5 : Nat) (sp : Int32) (av : Nat) (an : Nat) (ak : Nat) (ne : Int32) (aW : Nat) (aC : Nat) (ag : Nat) (aT : Nat) (aN : Nat) (aF : Nat) (fw : Nat → Int32) (ft : Nat → Int32) (sz : Nat) (H_po : Rg po 0 400) (H_en : Rg en 0 400) (H_fw_W : wW fw) (H_fw_B : wB fw) (H_fw_L : wL fw) : Met l yX11_readWears kwX11_readWears ({ frames := 3, cells := 0, slots := 0, locals := 65 } : Room) (kPre D (kT cI cJ cB cC) sz [(h, oX11 th aw ai ab ac hi re aP ta po en be de fa a5 sp av an ak ne aW aC ag aT aN aF), (aw, kcI cI 2179 fw), (aP, .inl (cB, 400, .inl ft))] [.ref h]) (va_Qi (fun (r : Int32) (uu : Int32 × Int32 × (Nat → Int32)) => match uu with | (n0_, n1_, f2_) => Rg n0_ 0 400 ∧ Rg n1_ 0 400 ∧ wB f2_ ∧ wL f2_ ∧ wW f2_ ∧ F_r_readWears (po : Int32).toInt (en : Int32).toInt (gT fw) (gT ft) = ((r : Int32).toInt, (n0_ : Int32).toInt, (n1_ : Int32).toInt, (gT f2_)) ∧ ((r = 0) ∨ (r = 1))) (fun (uu : Int32 × Int32 × (Nat → Int32)) (t : State) => match uu with | (n0_, n1_, f2_) => kB D (kT cI cJ cB cC) (va_A [(h, oX11 th aw ai ab ac hi re aP ta po en be de fa a5 sp av an ak ne aW aC ag aT aN aF), (aw, kcI cI 2179 fw), (aP, .inl (cB, 400, .inl ft))] sz) [(h, oX11 th aw ai ab ac hi re aP ta n0_ en n1_ de fa a5 sp av an ak ne aW aC ag aT aN aF), (aw, kcI cI 2179 f2_), (aP, .inl (cB, 400, .inl ft))] t) (va_A [(h, oX11 th aw ai ab ac hi re aP ta po en be de fa a5 sp av an ak ne aW aC ag aT aN aF), (aw, kcI cI 2179 fw), (aP, .inl (cB, 400, .inl ft))] sz)) 0 0 (va_A [(h, oX11 th aw ai ab ac hi re aP ta po en be de fa a5 sp av an ak ne aW aC ag aT aN aF), (aw, kcI cI 2179 fw), (aP, .inl (cB, 400, .inl ft))] sz) := by
  refine Met.ofW (cc := cX11_readWears) (maxL := 3) (ret := (some .boolean)) (by decide) rfl ?_
  intro p e s m args below meth c s₁ B hml hv
  obtain ⟨rfl, hsz, hN, hE, hP, hK, hD0⟩ := hv
  have hx := B.exec
  have hb := B.bytes
  have hr := B.returns
  have hts := fun (w : Cond) (h : w ∈ kG) => atoms_spec (ws := kwX11_readWears) B.pre w (List.mem_cons_of_mem _ h)
  have hown : s.vm.findClass RX11 = some m.cls := findClass_of_methodNamed B.named
  subst hsz
  have hD := hD0.self (sz := s.heap.size)
  generalize hAe : va_A [(h, oX11 th aw ai ab ac hi re aP ta po en be de fa a5 sp av an ak ne aW aC ag aT aN aF), (aw, kcI cI 2179 fw), (aP, .inl (cB, 400, .inl ft))] s.heap.size = A at hD hE ⊢
  have hA : ∀ q : Nat, s.heap.size ≤ q → A q := fun q h => by rw [← hAe]; exact Or.inr h
  have hl := lv_entry ([.ref h]) (n := 3) (Nat.le_of_ble_eq_true rfl)
  rw [lg_entry_eq]
  generalize (lg_sl ([.ref h]) ++ List.replicate (3 - (lg_sl ([.ref h])).length) Slot.unset).toArray = ls at hl ⊢
  have hl : lv_has ls 3 [(0, .ref h)] := hl
  obtain ⟨H, hH0⟩ : ∃ H, H = s.heap := ⟨_, rfl⟩
  have hS : va_S A s.heap H [] := by rw [hH0]; exact va_S.rf
  have hP : va_P D vwCl [(h, oX11 th aw ai ab ac hi re aP ta po en be de fa a5 sp av an ak ne aW aC ag aT aN aF), (aw, kcI cI 2179 fw), (aP, .inl (cB, 400, .inl ft))] H := by rw [hH0]; exact hP
  refine kHeap hH0 ?_
  clear hH0
  refine lv_aload_n hx hb dX11_readWears_0 rfl (lv_at hl 0 rfl) ?_
  refine lv_iconst (v := 0) hx hb dX11_readWears_1 (by decide) ?_
  refine lv_aload_n hx hb dX11_readWears_2 rfl (lv_at hl 0 rfl) ?_
  refine kpurei (wc := [(h, oX11 th aw ai ab ac hi re aP ta po en be de fa a5 sp av an ak ne aW aC ag aT aN aF), (aw, kcI cI 2179 fw)]) hP hD hS hA [0, 1] rfl (by decide) (fun hPc hDc hFc => va_runV (As := []) (rest := [.int 0, .ref h]) ⟨hx, hb, hml, hown, hts⟩ (r_men l D cI cJ cB cC h th aw ai ab ac hi re aP ta po en be de fa a5 sp av an ak ne aW aC ag aT aN aF fw H.size H_fw_W) (cwV 0 hts gX11_readWears_X11_men rfl rfl rfl ⟨rfl, hdX11_men⟩ ⟨Nat.le_of_ble_eq_true rfl, Nat.le_of_ble_eq_true rfl⟩) ⟨kBlind, va_recv hK hPc (ci := 10) (q0 := 0) rfl rfl, fun U hU hW => ⟨rfl, by rw [hU], hN.warm hW, hE.pass hS hFc hW hU, by rw [hU]; exact hPc, va_K.moved hW.alike hK, hDc⟩⟩ rfl rfl hl.1 rfl (lv_room (Nat.le_of_ble_eq_true rfl)) dX11_readWears_3 ⟨Nat.le_of_ble_eq_true rfl, Nat.le_of_ble_eq_true rfl⟩) (fun r1 u H locs hw hP hS => ?_)
  obtain ⟨k2, k3, k4⟩ := hw
  refine lv_iconst (v := 1) hx hb dX11_readWears_6 (by decide) ?_
  refine lv_isub hx hb dX11_readWears_7 ?_
  refine lv_topi (fun x5 ex5 => ?_)
  have k6 : Rg x5 (-1) 9 := rg_sub ex5 k3 (rg_lit (n := 1) (by decide)) (by decide)
  refine kcalli (wc := [(h, oX11 th aw ai ab ac hi re aP ta po en be de fa a5 sp av an ak ne aW aC ag aT aN aF), (aP, .inl (cB, 400, .inl ft))]) (wr := [(aw, kcI cI 2179 fw)]) hP hD hS hA [0, 2] [1] rfl rfl (by decide) (by decide) (by decide) (fun hPc hDc hFc => va_runV (As := [.int 0, .int x5]) (rest := []) ⟨hx, hb, hml, hown, hts⟩ (r_number_men l D cI cJ cB cC h th aw ai ab ac hi re aP ta po en be de fa a5 sp av an ak ne aW aC ag aT aN aF ft x5 H.size H_po H_en k6) (cwV 2 hts gX11_readWears_X11_number rfl rfl rfl ⟨rfl, hdX11_number⟩ ⟨Nat.le_of_ble_eq_true rfl, Nat.le_of_ble_eq_true rfl⟩) ⟨kBlind, va_recv hK hPc (ci := 10) (q0 := 0) rfl rfl, fun U hU hW => ⟨rfl, by rw [hU], hN.warm hW, hE.pass hS hFc hW hU, by rw [hU]; exact hPc, va_K.moved hW.alike hK, hDc⟩⟩ rfl rfl hl.1 rfl (lv_room (Nat.le_of_ble_eq_true rfl)) dX11_readWears_8 ⟨Nat.le_of_ble_eq_true rfl, Nat.le_of_ble_eq_true rfl⟩) (fun r7 u H locs hw hP hD hS => ?_)
  obtain ⟨x8, x9⟩ := u
  have hP : va_P D vwCl [(aw, kcI cI 2179 fw), (h, oX11 th aw ai ab ac hi re aP ta x8 en x9 de fa a5 sp av an ak ne aW aC ag aT aN aF), (aP, .inl (cB, 400, .inl ft))] H := hP
  have hD : va_D A [(aw, kcI cI 2179 fw), (h, oX11 th aw ai ab ac hi re aP ta x8 en x9 de fa a5 sp av an ak ne aW aC ag aT aN aF), (aP, .inl (cB, 400, .inl ft))] := hD
  obtain ⟨k10, k11, k12, k13, k14, k15⟩ := hw
  refine lv_istore_n (lv' := [(1, .int r7), (0, .ref h)]) hx hb dX11_readWears_11 rfl hl (by decide) rfl (fun ls hl => ?_)
  refine lv_iload_n hx hb dX11_readWears_12 rfl (lv_at hl 0 rfl) ?_
  refine k_join (hd := 25) (cells2 := 0) (slots2 := 0) (fun (_ : Unit) => []) (fun (_ : Unit) (H : Heap) (locs : List Loc) (ls : Array Slot) => (F_r_readWears po.toInt en.toInt (gT fw) (gT ft) = F_r_readWears_j1 (gT fw) x8.toInt x9.toInt) ∧ va_P D vwCl [(aw, kcI cI 2179 fw), (h, oX11 th aw ai ab ac hi re aP ta x8 en x9 de fa a5 sp av an ak ne aW aC ag aT aN aF), (aP, .inl (cB, 400, .inl ft))] H ∧ va_D A [(aw, kcI cI 2179 fw), (h, oX11 th aw ai ab ac hi re aP ta x8 en x9 de fa a5 sp av an ak ne aW aC ag aT aN aF), (aP, .inl (cB, 400, .inl ft))] ∧ va_S A s.heap H locs ∧ lv_has ls 3 [(1, .int r7), (0, .ref h)]) (fun u H locs ls hI => ?_) (fun hJ25 => ?_)
  · skip
    clear hP hD hS hl
    obtain ⟨hF1, hP, hD, hS, hl⟩ := hI
    have hP : va_P D vwCl [(aw, kcI cI 2179 fw), (h, oX11 th aw ai ab ac hi re aP ta x8 en x9 de fa a5 sp av an ak ne aW aC ag aT aN aF), (aP, .inl (cB, 400, .inl ft))] H := hP
    have hD : va_D A [(aw, kcI cI 2179 fw), (h, oX11 th aw ai ab ac hi re aP ta x8 en x9 de fa a5 sp av an ak ne aW aC ag aT aN aF), (aP, .inl (cB, 400, .inl ft))] := hD
    have hl : lv_has ls 3 [(1, .int r7), (0, .ref h)] := hl
    refine lv_iconst (v := 0) hx hb dX11_readWears_25 (by decide) ?_
    have hP9 := hP.sub (ws' := [(h, oX11 th aw ai ab ac hi re aP ta x8 en x9 de fa a5 sp av an ak ne aW aC ag aT aN aF), (aw, kcI cI 2179 fw), (aP, .inl (cB, 400, .inl ft))]) [1, 0, 2] rfl
    have hD9 := hD.sub (ws' := [(h, oX11 th aw ai ab ac hi re aP ta x8 en x9 de fa a5 sp av an ak ne aW aC ag aT aN aF), (aw, kcI cI 2179 fw), (aP, .inl (cB, 400, .inl ft))]) [1, 0, 2] (by decide) rfl
    exact W.zret (v := 0) hx hb hr (by decide) (fun t ht hW => ⟨⟨0, (x8, x9, fw), rfl, ⟨k10, k11, H_fw_B, H_fw_L, H_fw_W, (hF1.trans rfl), (Or.inl rfl)⟩, by rw [ht]; exact hP9, va_K.moved hW.alike hK, hD9⟩, hS.F ht⟩) hS.2.2 dX11_readWears_26
  refine lv_if_lt (tgt := 25) hx hb dX11_readWears_13 (by decide) (fun c61 => ?_) (fun c61 => ?_)
  · skip
    have k62 : Rg r7 (-1) (-1) := rg_l1 (ltI c61) k12 (rg_lit (n := 0) (by decide)) (by decide)
    exact hJ25 () _ _ _ ⟨(kLet_eq (k4).symm (kLet_eq (ti_sub ex5 k3 (rg_lit (n := 1) (by decide)) (by decide) rfl rfl) (kC_eq k15 (kC_eq rfl (kif_t (ltI c61) rfl))))), hP.sub (ws' := [(aw, kcI cI 2179 fw), (h, oX11 th aw ai ab ac hi re aP ta x8 en x9 de fa a5 sp av an ak ne aW aC ag aT aN aF), (aP, .inl (cB, 400, .inl ft))]) [0, 1, 2] rfl, hD.sub (ws' := [(aw, kcI cI 2179 fw), (h, oX11 th aw ai ab ac hi re aP ta x8 en x9 de fa a5 sp av an ak ne aW aC ag aT aN aF), (aP, .inl (cB, 400, .inl ft))]) [0, 1, 2] (by decide) rfl, hS, lv_sub (l' := [(1, .int r7), (0, .ref h)]) hl [0, 1] rfl⟩
  · skip
    have k63 : Rg r7 0 9 := rg_e2 (nltI c61) (rg_lit (n := 0) (by decide)) k12 (by decide)
    refine lv_aload_n hx hb dX11_readWears_16 rfl (lv_at hl 1 rfl) ?_
    refine lv_iload_n hx hb dX11_readWears_17 rfl (lv_at hl 0 rfl) ?_
    refine lv_iconst (v := 4) hx hb dX11_readWears_18 (by decide) ?_
    refine kpurei (wc := [(h, oX11 th aw ai ab ac hi re aP ta x8 en x9 de fa a5 sp av an ak ne aW aC ag aT aN aF), (aw, kcI cI 2179 fw)]) hP hD hS hA [1, 0] rfl (by decide) (fun hPc hDc hFc => va_runV (As := [.int r7, .int 4]) (rest := []) ⟨hx, hb, hml, hown, hts⟩ (r_ofMan4 l D cI cJ cB cC h th aw ai ab ac hi re aP ta x8 en x9 de fa a5 sp av an ak ne aW aC ag aT aN aF fw r7 H.size k63 H_fw_W) (cwV 2 hts gX11_readWears_X11_ofMan rfl rfl rfl ⟨rfl, hdX11_ofMan⟩ ⟨Nat.le_of_ble_eq_true rfl, Nat.le_of_ble_eq_true rfl⟩) ⟨kBlind, va_recv hK hPc (ci := 10) (q0 := 0) rfl rfl, fun U hU hW => ⟨rfl, by rw [hU], hN.warm hW, hE.pass hS hFc hW hU, by rw [hU]; exact hPc, va_K.moved hW.alike hK, hDc⟩⟩ rfl rfl hl.1 rfl (lv_room (Nat.le_of_ble_eq_true rfl)) dX11_readWears_19 ⟨Nat.le_of_ble_eq_true rfl, Nat.le_of_ble_eq_true rfl⟩) (fun r64 u H locs hw hP hS => ?_)
    obtain ⟨k65, k66, k67⟩ := hw
    refine lv_if_lt (tgt := 27) hx hb dX11_readWears_22 (by decide) (fun c68 => ?_) (fun c68 => ?_)
    · skip
      have k69 : Rg r64 (-1) (-1) := rg_l1 (ltI c68) k66 (rg_lit (n := 0) (by decide)) (by decide)
      refine lv_aload_n hx hb dX11_readWears_27 rfl (lv_at hl 1 rfl) ?_
      refine lv_iconst (v := 0) hx hb dX11_readWears_28 (by decide) ?_
      refine lv_aload_n hx hb dX11_readWears_29 rfl (lv_at hl 1 rfl) ?_
      refine kpurei (wc := [(h, oX11 th aw ai ab ac hi re aP ta x8 en x9 de fa a5 sp av an ak ne aW aC ag aT aN aF), (aw, kcI cI 2179 fw)]) hP hD hS hA [1, 0] rfl (by decide) (fun hPc hDc hFc => va_runV (As := []) (rest := [.int 0, .ref h]) ⟨hx, hb, hml, hown, hts⟩ (r_shirts l D cI cJ cB cC h th aw ai ab ac hi re aP ta x8 en x9 de fa a5 sp av an ak ne aW aC ag aT aN aF fw H.size H_fw_W) (cwV 0 hts gX11_readWears_X11_shirts rfl rfl rfl ⟨rfl, hdX11_shirts⟩ ⟨Nat.le_of_ble_eq_true rfl, Nat.le_of_ble_eq_true rfl⟩) ⟨kBlind, va_recv hK hPc (ci := 10) (q0 := 0) rfl rfl, fun U hU hW => ⟨rfl, by rw [hU], hN.warm hW, hE.pass hS hFc hW hU, by rw [hU]; exact hPc, va_K.moved hW.alike hK, hDc⟩⟩ rfl rfl hl.1 rfl (lv_room (Nat.le_of_ble_eq_true rfl)) dX11_readWears_30 ⟨Nat.le_of_ble_eq_true rfl, Nat.le_of_ble_eq_true rfl⟩) (fun r70 u H locs hw hP hS => ?_)
      obtain ⟨k71, k72, k73⟩ := hw
      refine lv_iconst (v := 1) hx hb dX11_readWears_33 (by decide) ?_
      refine lv_isub hx hb dX11_readWears_34 ?_
      refine lv_topi (fun x74 ex74 => ?_)
      have k75 : Rg x74 (-1) 11 := rg_sub ex74 k72 (rg_lit (n := 1) (by decide)) (by decide)
      refine kcalli (wc := [(h, oX11 th aw ai ab ac hi re aP ta x8 en x9 de fa a5 sp av an ak ne aW aC ag aT aN aF), (aP, .inl (cB, 400, .inl ft))]) (wr := [(aw, kcI cI 2179 fw)]) hP hD hS hA [1, 2] [0] rfl rfl (by decide) (by decide) (by decide) (fun hPc hDc hFc => va_runV (As := [.int 0, .int x74]) (rest := []) ⟨hx, hb, hml, hown, hts⟩ (r_number_shirts l D cI cJ cB cC h th aw ai ab ac hi re aP ta x8 en x9 de fa a5 sp av an ak ne aW aC ag aT aN aF ft x74 H.size k10 H_en k75) (cwV 2 hts gX11_readWears_X11_number rfl rfl rfl ⟨rfl, hdX11_number⟩ ⟨Nat.le_of_ble_eq_true rfl, Nat.le_of_ble_eq_true rfl⟩) ⟨kBlind, va_recv hK hPc (ci := 10) (q0 := 0) rfl rfl, fun U hU hW => ⟨rfl, by rw [hU], hN.warm hW, hE.pass hS hFc hW hU, by rw [hU]; exact hPc, va_K.moved hW.alike hK, hDc⟩⟩ rfl rfl hl.1 rfl (lv_room (Nat.le_of_ble_eq_true rfl)) dX11_readWears_35 ⟨Nat.le_of_ble_eq_true rfl, Nat.le_of_ble_eq_true rfl⟩) (fun r76 u H locs hw hP hD hS => ?_)
      obtain ⟨x77, x78⟩ := u
      have hP : va_P D vwCl [(aw, kcI cI 2179 fw), (h, oX11 th aw ai ab ac hi re aP ta x77 en x78 de fa a5 sp av an ak ne aW aC ag aT aN aF), (aP, .inl (cB, 400, .inl ft))] H := hP
      have hD : va_D A [(aw, kcI cI 2179 fw), (h, oX11 th aw ai ab ac hi re aP ta x77 en x78 de fa a5 sp av an ak ne aW aC ag aT aN aF), (aP, .inl (cB, 400, .inl ft))] := hD
      obtain ⟨k79, k80, k81, k82, k83, k84⟩ := hw
      refine lv_istore_n (lv' := [(2, .int r76), (1, .int r7), (0, .ref h)]) hx hb dX11_readWears_38 rfl hl (by decide) rfl (fun ls hl => ?_)
      refine lv_iload_n hx hb dX11_readWears_39 rfl (lv_at hl 0 rfl) ?_
      refine k_join (hd := 52) (cells2 := 0) (slots2 := 0) (fun (_ : Unit) => []) (fun (_ : Unit) (H : Heap) (locs : List Loc) (ls : Array Slot) => (F_r_readWears po.toInt en.toInt (gT fw) (gT ft) = F_r_readWears_j2 (gT fw) x77.toInt x78.toInt) ∧ va_P D vwCl [(aw, kcI cI 2179 fw), (h, oX11 th aw ai ab ac hi re aP ta x77 en x78 de fa a5 sp av an ak ne aW aC ag aT aN aF), (aP, .inl (cB, 400, .inl ft))] H ∧ va_D A [(aw, kcI cI 2179 fw), (h, oX11 th aw ai ab ac hi re aP ta x77 en x78 de fa a5 sp av an ak ne aW aC ag aT aN aF), (aP, .inl (cB, 400, .inl ft))] ∧ va_S A s.heap H locs ∧ lv_has ls 3 [(2, .int r76), (1, .int r7), (0, .ref h)]) (fun u H locs ls hI => ?_) (fun hJ52 => ?_)
      · skip
        clear hP hD hS hl
        obtain ⟨hF2, hP, hD, hS, hl⟩ := hI
        have hP : va_P D vwCl [(aw, kcI cI 2179 fw), (h, oX11 th aw ai ab ac hi re aP ta x77 en x78 de fa a5 sp av an ak ne aW aC ag aT aN aF), (aP, .inl (cB, 400, .inl ft))] H := hP
        have hD : va_D A [(aw, kcI cI 2179 fw), (h, oX11 th aw ai ab ac hi re aP ta x77 en x78 de fa a5 sp av an ak ne aW aC ag aT aN aF), (aP, .inl (cB, 400, .inl ft))] := hD
        have hl : lv_has ls 3 [(2, .int r76), (1, .int r7), (0, .ref h)] := hl
        refine lv_iconst (v := 0) hx hb dX11_readWears_52 (by decide) ?_
        have hP9 := hP.sub (ws' := [(h, oX11 th aw ai ab ac hi re aP ta x77 en x78 de fa a5 sp av an ak ne aW aC ag aT aN aF), (aw, kcI cI 2179 fw), (aP, .inl (cB, 400, .inl ft))]) [1, 0, 2] rfl
        have hD9 := hD.sub (ws' := [(h, oX11 th aw ai ab ac hi re aP ta x77 en x78 de fa a5 sp av an ak ne aW aC ag aT aN aF), (aw, kcI cI 2179 fw), (aP, .inl (cB, 400, .inl ft))]) [1, 0, 2] (by decide) rfl
        exact W.zret (v := 0) hx hb hr (by decide) (fun t ht hW => ⟨⟨0, (x77, x78, fw), rfl, ⟨k79, k80, H_fw_B, H_fw_L, H_fw_W, (hF2.trans rfl), (Or.inl rfl)⟩, by rw [ht]; exact hP9, va_K.moved hW.alike hK, hD9⟩, hS.F ht⟩) hS.2.2 dX11_readWears_53
      refine lv_if_lt (tgt := 52) hx hb dX11_readWears_40 (by decide) (fun c105 => ?_) (fun c105 => ?_)
      · skip
        have k106 : Rg r76 (-1) (-1) := rg_l1 (ltI c105) k81 (rg_lit (n := 0) (by decide)) (by decide)
        exact hJ52 () _ _ _ ⟨(kLet_eq (k4).symm (kLet_eq (ti_sub ex5 k3 (rg_lit (n := 1) (by decide)) (by decide) rfl rfl) (kC_eq k15 (kC_eq rfl (kif_f (xF_lt c61) (kLet_eq (k67).symm (kif_t (ltI c68) (kLet_eq (k73).symm (kLet_eq (ti_sub ex74 k72 (rg_lit (n := 1) (by decide)) (by decide) rfl rfl) (kC_eq k84 (kC_eq rfl (kif_t (ltI c105) rfl)))))))))))), hP.sub (ws' := [(aw, kcI cI 2179 fw), (h, oX11 th aw ai ab ac hi re aP ta x77 en x78 de fa a5 sp av an ak ne aW aC ag aT aN aF), (aP, .inl (cB, 400, .inl ft))]) [0, 1, 2] rfl, hD.sub (ws' := [(aw, kcI cI 2179 fw), (h, oX11 th aw ai ab ac hi re aP ta x77 en x78 de fa a5 sp av an ak ne aW aC ag aT aN aF), (aP, .inl (cB, 400, .inl ft))]) [0, 1, 2] (by decide) rfl, hS, lv_sub (l' := [(2, .int r76), (1, .int r7), (0, .ref h)]) hl [0, 1, 2] rfl⟩
      · skip
        have k107 : Rg r76 0 11 := rg_e2 (nltI c105) (rg_lit (n := 0) (by decide)) k81 (by decide)
        refine lv_aload_n hx hb dX11_readWears_43 rfl (lv_at hl 2 rfl) ?_
        refine lv_iload_n hx hb dX11_readWears_44 rfl (lv_at hl 0 rfl) ?_
        refine lv_iconst (v := 5) hx hb dX11_readWears_45 (by decide) ?_
        refine kpurei (wc := [(h, oX11 th aw ai ab ac hi re aP ta x77 en x78 de fa a5 sp av an ak ne aW aC ag aT aN aF), (aw, kcI cI 2179 fw)]) hP hD hS hA [1, 0] rfl (by decide) (fun hPc hDc hFc => va_runV (As := [.int r76, .int 5]) (rest := []) ⟨hx, hb, hml, hown, hts⟩ (r_of5 l D cI cJ cB cC h th aw ai ab ac hi re aP ta x77 en x78 de fa a5 sp av an ak ne aW aC ag aT aN aF fw r76 H.size k107 H_fw_W) (cwV 2 hts gX11_readWears_X11_of rfl rfl rfl ⟨rfl, hdX11_of⟩ ⟨Nat.le_of_ble_eq_true rfl, Nat.le_of_ble_eq_true rfl⟩) ⟨kBlind, va_recv hK hPc (ci := 10) (q0 := 0) rfl rfl, fun U hU hW => ⟨rfl, by rw [hU], hN.warm hW, hE.pass hS hFc hW hU, by rw [hU]; exact hPc, va_K.moved hW.alike hK, hDc⟩⟩ rfl rfl hl.1 rfl (lv_room (Nat.le_of_ble_eq_true rfl)) dX11_readWears_46 ⟨Nat.le_of_ble_eq_true rfl, Nat.le_of_ble_eq_true rfl⟩) (fun r108 u H locs hw hP hS => ?_)
        obtain ⟨k109, k110, k111⟩ := hw
        refine lv_if_lt (tgt := 54) hx hb dX11_readWears_49 (by decide) (fun c112 => ?_) (fun c112 => ?_)
        · skip
          have k113 : Rg r108 (-1) (-1) := rg_l1 (ltI c112) k110 (rg_lit (n := 0) (by decide)) (by decide)
          refine lv_aload_n hx hb dX11_readWears_54 rfl (lv_at hl 2 rfl) ?_
          refine lv_iload_n hx hb dX11_readWears_55 rfl (lv_at hl 1 rfl) ?_
          refine lv_iconst (v := 4) hx hb dX11_readWears_56 (by decide) ?_
          refine lv_iload_n hx hb dX11_readWears_57 rfl (lv_at hl 0 rfl) ?_
          refine kcallv (wc := [(h, oX11 th aw ai ab ac hi re aP ta x77 en x78 de fa a5 sp av an ak ne aW aC ag aT aN aF), (aw, kcI cI 2179 fw)]) (wr := [(aP, .inl (cB, 400, .inl ft))]) hP hD hS hA [1, 0] [2] rfl rfl (by decide) (by decide) (by decide) (fun hPc hDc hFc => va_runV (As := [.int r7, .int 4, .int r76]) (rest := []) ⟨hx, hb, hml, hown, hts⟩ (r_setsMan4 l D cI cJ cB cC h th aw ai ab ac hi re aP ta x77 en x78 de fa a5 sp av an ak ne aW aC ag aT aN aF fw r7 r76 H.size k63 (rg_w k107 (by decide)) H_fw_W H_fw_B H_fw_L) (cwV 3 hts gX11_readWears_X11_setsMan rfl rfl rfl ⟨rfl, hdX11_setsMan⟩ ⟨Nat.le_of_ble_eq_true rfl, Nat.le_of_ble_eq_true rfl⟩) ⟨kBlind, va_recv hK hPc (ci := 10) (q0 := 0) rfl rfl, fun U hU hW => ⟨rfl, by rw [hU], hN.warm hW, hE.pass hS hFc hW hU, by rw [hU]; exact hPc, va_K.moved hW.alike hK, hDc⟩⟩ rfl rfl hl.1 rfl (lv_room (Nat.le_of_ble_eq_true rfl)) dX11_readWears_58 ⟨Nat.le_of_ble_eq_true rfl, Nat.le_of_ble_eq_true rfl⟩) (fun u H locs hw hP hD hS => ?_)
          obtain ⟨g114, rfl⟩ : ∃ z, z = u := ⟨_, rfl⟩
          have hP : va_P D vwCl [(aP, .inl (cB, 400, .inl ft)), (h, oX11 th aw ai ab ac hi re aP ta x77 en x78 de fa a5 sp av an ak ne aW aC ag aT aN aF), (aw, kcI cI 2179 g114)] H := hP
          have hD : va_D A [(aP, .inl (cB, 400, .inl ft)), (h, oX11 th aw ai ab ac hi re aP ta x77 en x78 de fa a5 sp av an ak ne aW aC ag aT aN aF), (aw, kcI cI 2179 g114)] := hD
          obtain ⟨k115, k116, k117, k118⟩ := hw
          refine lv_aload_n hx hb dX11_readWears_61 rfl (lv_at hl 2 rfl) ?_
          refine lv_iload_n hx hb dX11_readWears_62 rfl (lv_at hl 0 rfl) ?_
          refine lv_iconst (v := 5) hx hb dX11_readWears_63 (by decide) ?_
          refine lv_iload_n hx hb dX11_readWears_64 rfl (lv_at hl 1 rfl) ?_
          refine kcallv (wc := [(h, oX11 th aw ai ab ac hi re aP ta x77 en x78 de fa a5 sp av an ak ne aW aC ag aT aN aF), (aw, kcI cI 2179 g114)]) (wr := [(aP, .inl (cB, 400, .inl ft))]) hP hD hS hA [1, 2] [0] rfl rfl (by decide) (by decide) (by decide) (fun hPc hDc hFc => va_runV (As := [.int r76, .int 5, .int r7]) (rest := []) ⟨hx, hb, hml, hown, hts⟩ (r_sets5 l D cI cJ cB cC h th aw ai ab ac hi re aP ta x77 en x78 de fa a5 sp av an ak ne aW aC ag aT aN aF g114 r76 r7 H.size k107 (rg_w k63 (by decide)) k117 k115 k116) (cwV 3 hts gX11_readWears_X11_sets rfl rfl rfl ⟨rfl, hdX11_sets⟩ ⟨Nat.le_of_ble_eq_true rfl, Nat.le_of_ble_eq_true rfl⟩) ⟨kBlind, va_recv hK hPc (ci := 10) (q0 := 0) rfl rfl, fun U hU hW => ⟨rfl, by rw [hU], hN.warm hW, hE.pass hS hFc hW hU, by rw [hU]; exact hPc, va_K.moved hW.alike hK, hDc⟩⟩ rfl rfl hl.1 rfl (lv_room (Nat.le_of_ble_eq_true rfl)) dX11_readWears_65 ⟨Nat.le_of_ble_eq_true rfl, Nat.le_of_ble_eq_true rfl⟩) (fun u H locs hw hP hD hS => ?_)
          obtain ⟨g119, rfl⟩ : ∃ z, z = u := ⟨_, rfl⟩
          have hP : va_P D vwCl [(aP, .inl (cB, 400, .inl ft)), (h, oX11 th aw ai ab ac hi re aP ta x77 en x78 de fa a5 sp av an ak ne aW aC ag aT aN aF), (aw, kcI cI 2179 g119)] H := hP
          have hD : va_D A [(aP, .inl (cB, 400, .inl ft)), (h, oX11 th aw ai ab ac hi re aP ta x77 en x78 de fa a5 sp av an ak ne aW aC ag aT aN aF), (aw, kcI cI 2179 g119)] := hD
          obtain ⟨k120, k121, k122, k123⟩ := hw
          refine lv_iconst (v := 1) hx hb dX11_readWears_68 (by decide) ?_
          have hP9 := hP.sub (ws' := [(h, oX11 th aw ai ab ac hi re aP ta x77 en x78 de fa a5 sp av an ak ne aW aC ag aT aN aF), (aw, kcI cI 2179 g119), (aP, .inl (cB, 400, .inl ft))]) [1, 2, 0] rfl
          have hD9 := hD.sub (ws' := [(h, oX11 th aw ai ab ac hi re aP ta x77 en x78 de fa a5 sp av an ak ne aW aC ag aT aN aF), (aw, kcI cI 2179 g119), (aP, .inl (cB, 400, .inl ft))]) [1, 2, 0] (by decide) rfl
          exact W.zret (v := 1) hx hb hr (by decide) (fun t ht hW => ⟨⟨1, (x77, x78, g119), rfl, ⟨k79, k80, k120, k121, k122, (kLet_eq (k4).symm (kLet_eq (ti_sub ex5 k3 (rg_lit (n := 1) (by decide)) (by decide) rfl rfl) (kC_eq k15 (kC_eq rfl (kif_f (xF_lt c61) (kLet_eq (k67).symm (kif_t (ltI c68) (kLet_eq (k73).symm (kLet_eq (ti_sub ex74 k72 (rg_lit (n := 1) (by decide)) (by decide) rfl rfl) (kC_eq k84 (kC_eq rfl (kif_f (xF_lt c105) (kLet_eq (k111).symm (kif_t (ltI c112) (kLet_eq (k118).symm (kLet_eq (k123).symm rfl)))))))))))))))), (Or.inr rfl)⟩, by rw [ht]; exact hP9, va_K.moved hW.alike hK, hD9⟩, hS.F ht⟩) hS.2.2 dX11_readWears_69
        · skip
          have k124 : Rg r108 0 9 := rg_e2 (nltI c112) (rg_lit (n := 0) (by decide)) k110 (by decide)
          exact hJ52 () _ _ _ ⟨(kLet_eq (k4).symm (kLet_eq (ti_sub ex5 k3 (rg_lit (n := 1) (by decide)) (by decide) rfl rfl) (kC_eq k15 (kC_eq rfl (kif_f (xF_lt c61) (kLet_eq (k67).symm (kif_t (ltI c68) (kLet_eq (k73).symm (kLet_eq (ti_sub ex74 k72 (rg_lit (n := 1) (by decide)) (by decide) rfl rfl) (kC_eq k84 (kC_eq rfl (kif_f (xF_lt c105) (kLet_eq (k111).symm (kif_f (xF_lt c112) rfl)))))))))))))), hP.sub (ws' := [(aw, kcI cI 2179 fw), (h, oX11 th aw ai ab ac hi re aP ta x77 en x78 de fa a5 sp av an ak ne aW aC ag aT aN aF), (aP, .inl (cB, 400, .inl ft))]) [0, 1, 2] rfl, hD.sub (ws' := [(aw, kcI cI 2179 fw), (h, oX11 th aw ai ab ac hi re aP ta x77 en x78 de fa a5 sp av an ak ne aW aC ag aT aN aF), (aP, .inl (cB, 400, .inl ft))]) [0, 1, 2] (by decide) rfl, hS, lv_sub (l' := [(2, .int r76), (1, .int r7), (0, .ref h)]) hl [0, 1, 2] rfl⟩
    · skip
      have k125 : Rg r64 0 11 := rg_e2 (nltI c68) (rg_lit (n := 0) (by decide)) k66 (by decide)
      exact hJ25 () _ _ _ ⟨(kLet_eq (k4).symm (kLet_eq (ti_sub ex5 k3 (rg_lit (n := 1) (by decide)) (by decide) rfl rfl) (kC_eq k15 (kC_eq rfl (kif_f (xF_lt c61) (kLet_eq (k67).symm (kif_f (xF_lt c68) rfl))))))), hP.sub (ws' := [(aw, kcI cI 2179 fw), (h, oX11 th aw ai ab ac hi re aP ta x8 en x9 de fa a5 sp av an ak ne aW aC ag aT aN aF), (aP, .inl (cB, 400, .inl ft))]) [0, 1, 2] rfl, hD.sub (ws' := [(aw, kcI cI 2179 fw), (h, oX11 th aw ai ab ac hi re aP ta x8 en x9 de fa a5 sp av an ak ne aW aC ag aT aN aF), (aP, .inl (cB, 400, .inl ft))]) [0, 1, 2] (by decide) rfl, hS, lv_sub (l' := [(1, .int r7), (0, .ref h)]) hl [0, 1] rfl⟩

def kwX11_readCampLine : List Cond := .code yX11_readCampLine cX11_readCampLine 3 (some .boolean) :: kG
theorem hdX11_readCampLine : yX11_readCampLine.cls ≠ "java/lang/invoke/MethodHandle" ∧ yX11_readCampLine.cls ≠ "java/lang/invoke/VarHandle" ∧ (parseMethodDescriptor yX11_readCampLine.desc).map (fun d => d.parameters.length) = some 0 := by decide +kernel
theorem gX11_readCampLine_X11_isWord : GoodIn kG (wsV RX11 114 RX11 yX11_isWord kwX11_isWord) := gK w19_7 (gK w19_8 (gK w19_9 (gK w0_5 (gK w19_10 gGG))))
theorem gX11_readCampLine_X11_number : GoodIn kG (wsV RX11 118 RX11 yX11_number kwX11_number) := gK w19_21 (gK w19_22 (gK w19_23 (gK w0_5 (gK w20_0 gGG))))
theorem gX11_readCampLine_X11_readMan : GoodIn kG (wsV RX11 161 RX11 yX11_readMan kwX11_readMan) := gK w19_13 (gK w19_14 (gK w19_15 (gK w0_5 (gK w19_16 gGG))))
theorem gX11_readCampLine_X11_readShirt : GoodIn kG (wsV RX11 167 RX11 yX11_readShirt kwX11_readShirt) := gK w20_13 (gK w20_14 (gK w20_15 (gK w0_5 (gK w20_16 gGG))))
theorem gX11_readCampLine_X11_readWears : GoodIn kG (wsV RX11 172 RX11 yX11_readWears kwX11_readWears) := gK w21_1 (gK w21_2 (gK w21_3 (gK w0_5 (gK w21_4 gGG))))
theorem dX11_readCampLine_0 : decode cX11_readCampLine 0 = .ok (.aload_n 0, 1) := by decide +kernel
theorem dX11_readCampLine_1 : decode cX11_readCampLine 1 = .ok (.ldc 159, 2) := by decide +kernel
theorem dX11_readCampLine_3 : decode cX11_readCampLine 3 = .ok (.invokevirtual 114, 3) := by decide +kernel
theorem dX11_readCampLine_6 : decode cX11_readCampLine 6 = .ok (.ifCond .eq 8, 3) := by decide +kernel
theorem dX11_readCampLine_9 : decode cX11_readCampLine 9 = .ok (.aload_n 0, 1) := by decide +kernel
theorem dX11_readCampLine_10 : decode cX11_readCampLine 10 = .ok (.invokevirtual 161, 3) := by decide +kernel
theorem dX11_readCampLine_13 : decode cX11_readCampLine 13 = .ok (.ireturn, 1) := by decide +kernel
theorem dX11_readCampLine_14 : decode cX11_readCampLine 14 = .ok (.aload_n 0, 1) := by decide +kernel
theorem dX11_readCampLine_15 : decode cX11_readCampLine 15 = .ok (.ldc 165, 2) := by decide +kernel
theorem dX11_readCampLine_17 : decode cX11_readCampLine 17 = .ok (.invokevirtual 114, 3) := by decide +kernel
theorem dX11_readCampLine_20 : decode cX11_readCampLine 20 = .ok (.ifCond .eq 8, 3) := by decide +kernel
theorem dX11_readCampLine_23 : decode cX11_readCampLine 23 = .ok (.aload_n 0, 1) := by decide +kernel
theorem dX11_readCampLine_24 : decode cX11_readCampLine 24 = .ok (.invokevirtual 167, 3) := by decide +kernel
theorem dX11_readCampLine_27 : decode cX11_readCampLine 27 = .ok (.ireturn, 1) := by decide +kernel
theorem dX11_readCampLine_28 : decode cX11_readCampLine 28 = .ok (.aload_n 0, 1) := by decide +kernel
theorem dX11_readCampLine_29 : decode cX11_readCampLine 29 = .ok (.ldc 170, 2) := by decide +kernel
theorem dX11_readCampLine_31 : decode cX11_readCampLine 31 = .ok (.invokevirtual 114, 3) := by decide +kernel
theorem dX11_readCampLine_34 : decode cX11_readCampLine 34 = .ok (.ifCond .eq 8, 3) := by decide +kernel
theorem dX11_readCampLine_37 : decode cX11_readCampLine 37 = .ok (.aload_n 0, 1) := by decide +kernel
theorem dX11_readCampLine_38 : decode cX11_readCampLine 38 = .ok (.invokevirtual 172, 3) := by decide +kernel
theorem dX11_readCampLine_41 : decode cX11_readCampLine 41 = .ok (.ireturn, 1) := by decide +kernel
theorem dX11_readCampLine_42 : decode cX11_readCampLine 42 = .ok (.aload_n 0, 1) := by decide +kernel
theorem dX11_readCampLine_43 : decode cX11_readCampLine 43 = .ok (.ldc 175, 2) := by decide +kernel
theorem dX11_readCampLine_45 : decode cX11_readCampLine 45 = .ok (.invokevirtual 114, 3) := by decide +kernel
theorem dX11_readCampLine_48 : decode cX11_readCampLine 48 = .ok (.istore_n 1, 1) := by decide +kernel
theorem dX11_readCampLine_49 : decode cX11_readCampLine 49 = .ok (.iload_n 1, 1) := by decide +kernel
theorem dX11_readCampLine_50 : decode cX11_readCampLine 50 = .ok (.ifCond .eq 8, 3) := by decide +kernel
theorem dX11_readCampLine_53 : decode cX11_readCampLine 53 = .ok (.bipush 6, 2) := by decide +kernel
theorem dX11_readCampLine_55 : decode cX11_readCampLine 55 = .ok (.goto 32, 3) := by decide +kernel
theorem dX11_readCampLine_58 : decode cX11_readCampLine 58 = .ok (.aload_n 0, 1) := by decide +kernel
theorem dX11_readCampLine_59 : decode cX11_readCampLine 59 = .ok (.ldc 177, 2) := by decide +kernel
theorem dX11_readCampLine_61 : decode cX11_readCampLine 61 = .ok (.invokevirtual 114, 3) := by decide +kernel
theorem dX11_readCampLine_64 : decode cX11_readCampLine 64 = .ok (.ifCond .eq 8, 3) := by decide +kernel
theorem dX11_readCampLine_67 : decode cX11_readCampLine 67 = .ok (.bipush 7, 2) := by decide +kernel
theorem dX11_readCampLine_69 : decode cX11_readCampLine 69 = .ok (.goto 18, 3) := by decide +kernel
theorem dX11_readCampLine_72 : decode cX11_readCampLine 72 = .ok (.aload_n 0, 1) := by decide +kernel
theorem dX11_readCampLine_73 : decode cX11_readCampLine 73 = .ok (.ldc 179, 2) := by decide +kernel
theorem dX11_readCampLine_75 : decode cX11_readCampLine 75 = .ok (.invokevirtual 114, 3) := by decide +kernel
theorem dX11_readCampLine_78 : decode cX11_readCampLine 78 = .ok (.ifCond .eq 8, 3) := by decide +kernel
theorem dX11_readCampLine_81 : decode cX11_readCampLine 81 = .ok (.bipush 8, 2) := by decide +kernel
theorem dX11_readCampLine_83 : decode cX11_readCampLine 83 = .ok (.goto 4, 3) := by decide +kernel
theorem dX11_readCampLine_86 : decode cX11_readCampLine 86 = .ok (.iconst (-1), 1) := by decide +kernel
theorem dX11_readCampLine_87 : decode cX11_readCampLine 87 = .ok (.istore_n 2, 1) := by decide +kernel
theorem dX11_readCampLine_88 : decode cX11_readCampLine 88 = .ok (.iload_n 2, 1) := by decide +kernel
theorem dX11_readCampLine_89 : decode cX11_readCampLine 89 = .ok (.ifCond .ge 5, 3) := by decide +kernel
theorem dX11_readCampLine_92 : decode cX11_readCampLine 92 = .ok (.iconst 0, 1) := by decide +kernel
theorem dX11_readCampLine_93 : decode cX11_readCampLine 93 = .ok (.ireturn, 1) := by decide +kernel
theorem dX11_readCampLine_94 : decode cX11_readCampLine 94 = .ok (.aload_n 0, 1) := by decide +kernel
theorem dX11_readCampLine_95 : decode cX11_readCampLine 95 = .ok (.getfield 13, 3) := by decide +kernel
theorem dX11_readCampLine_98 : decode cX11_readCampLine 98 = .ok (.iload_n 2, 1) := by decide +kernel
theorem dX11_readCampLine_99 : decode cX11_readCampLine 99 = .ok (.aload_n 0, 1) := by decide +kernel
theorem dX11_readCampLine_100 : decode cX11_readCampLine 100 = .ok (.iconst 0, 1) := by decide +kernel
theorem dX11_readCampLine_101 : decode cX11_readCampLine 101 = .ok (.iload_n 1, 1) := by decide +kernel
theorem dX11_readCampLine_102 : decode cX11_readCampLine 102 = .ok (.ifCond .eq 8, 3) := by decide +kernel
theorem dX11_readCampLine_105 : decode cX11_readCampLine 105 = .ok (.bipush 99, 2) := by decide +kernel
theorem dX11_readCampLine_107 : decode cX11_readCampLine 107 = .ok (.goto 5, 3) := by decide +kernel
theorem dX11_readCampLine_110 : decode cX11_readCampLine 110 = .ok (.bipush 100, 2) := by decide +kernel
theorem dX11_readCampLine_112 : decode cX11_readCampLine 112 = .ok (.invokevirtual 118, 3) := by decide +kernel
theorem dX11_readCampLine_115 : decode cX11_readCampLine 115 = .ok (.iastore, 1) := by decide +kernel
theorem dX11_readCampLine_116 : decode cX11_readCampLine 116 = .ok (.aload_n 0, 1) := by decide +kernel
theorem dX11_readCampLine_117 : decode cX11_readCampLine 117 = .ok (.getfield 13, 3) := by decide +kernel
theorem dX11_readCampLine_120 : decode cX11_readCampLine 120 = .ok (.iload_n 2, 1) := by decide +kernel
theorem dX11_readCampLine_121 : decode cX11_readCampLine 121 = .ok (.iaload, 1) := by decide +kernel
theorem dX11_readCampLine_122 : decode cX11_readCampLine 122 = .ok (.ifCond .lt 7, 3) := by decide +kernel
theorem dX11_readCampLine_125 : decode cX11_readCampLine 125 = .ok (.iconst 1, 1) := by decide +kernel
theorem dX11_readCampLine_126 : decode cX11_readCampLine 126 = .ok (.goto 4, 3) := by decide +kernel
theorem dX11_readCampLine_129 : decode cX11_readCampLine 129 = .ok (.iconst 0, 1) := by decide +kernel
theorem dX11_readCampLine_130 : decode cX11_readCampLine 130 = .ok (.ireturn, 1) := by decide +kernel
set_option maxHeartbeats 4000000 in
set_option maxRecDepth 100000 in
/-- reference: readCampLine -/
theorem r_readCampLine (l : Launch) (D : va_G) (cI cJ cB cC : ClassId) (h : Nat) (th : Int32) (aw : Nat) (ai : Nat) (ab : Nat) (ac : Nat) (hi : Int32) (re : Int32) (aP : Nat) (ta : Int32) (po : Int32) (en : Int32) (be : Int32) (de : Int32) (fa : Int32) (a5 : Nat) (sp : Int32) (av : Nat) (an : Nat) (ak : Nat) (ne : Int32) (aW : Nat) (aC : Nat) (ag : Nat) (aT : Nat) (aN : Nat) (aF : Nat) (fw : Nat → Int32) (ft : Nat → Int32) (sz : Nat) (H_po : Rg po 0 400) (H_en : Rg en 0 400) (H_be : Rg be 0 400) (H_fw_W : wW fw) (H_fw_B : wB fw) (H_fw_L : wL fw) : Met l yX11_readCampLine kwX11_readCampLine ({ frames := 7, cells := 0, slots := 0, locals := 156 } : Room) (kPre D (kT cI cJ cB cC) sz [(h, oX11 th aw ai ab ac hi re aP ta po en be de fa a5 sp av an ak ne aW aC ag aT aN aF), (aw, kcI cI 2179 fw), (aP, .inl (cB, 400, .inl ft))] [.ref h]) (va_Qi (fun (r : Int32) (uu : Int32 × Int32 × (Nat → Int32)) => match uu with | (n0_, n1_, f2_) => Rg n0_ 0 400 ∧ wB f2_ ∧ wL f2_ ∧ wW f2_ ∧ F_r_readCampLine (po : Int32).toInt (en : Int32).toInt (be : Int32).toInt (gT fw) (gT ft) = ((r : Int32).toInt, (n0_ : Int32).toInt, (n1_ : Int32).toInt, (gT f2_)) ∧ ((r = 0) ∨ (r = 1))) (fun (uu : Int32 × Int32 × (Nat → Int32)) (t : State) => match uu with | (n0_, n1_, f2_) => kB D (kT cI cJ cB cC) (va_A [(h, oX11 th aw ai ab ac hi re aP ta po en be de fa a5 sp av an ak ne aW aC ag aT aN aF), (aw, kcI cI 2179 fw), (aP, .inl (cB, 400, .inl ft))] sz) [(h, oX11 th aw ai ab ac hi re aP ta n0_ en n1_ de fa a5 sp av an ak ne aW aC ag aT aN aF), (aw, kcI cI 2179 f2_), (aP, .inl (cB, 400, .inl ft))] t) (va_A [(h, oX11 th aw ai ab ac hi re aP ta po en be de fa a5 sp av an ak ne aW aC ag aT aN aF), (aw, kcI cI 2179 fw), (aP, .inl (cB, 400, .inl ft))] sz)) 0 0 (va_A [(h, oX11 th aw ai ab ac hi re aP ta po en be de fa a5 sp av an ak ne aW aC ag aT aN aF), (aw, kcI cI 2179 fw), (aP, .inl (cB, 400, .inl ft))] sz) := by
  refine Met.ofW (cc := cX11_readCampLine) (maxL := 3) (ret := (some .boolean)) (by decide) rfl ?_
  intro p e s m args below meth c s₁ B hml hv
  obtain ⟨rfl, hsz, hN, hE, hP, hK, hD0⟩ := hv
  have hx := B.exec
  have hb := B.bytes
  have hr := B.returns
  have hts := fun (w : Cond) (h : w ∈ kG) => atoms_spec (ws := kwX11_readCampLine) B.pre w (List.mem_cons_of_mem _ h)
  have hown : s.vm.findClass RX11 = some m.cls := findClass_of_methodNamed B.named
  subst hsz
  have hD := hD0.self (sz := s.heap.size)
  generalize hAe : va_A [(h, oX11 th aw ai ab ac hi re aP ta po en be de fa a5 sp av an ak ne aW aC ag aT aN aF), (aw, kcI cI 2179 fw), (aP, .inl (cB, 400, .inl ft))] s.heap.size = A at hD hE ⊢
  have hA : ∀ q : Nat, s.heap.size ≤ q → A q := fun q h => by rw [← hAe]; exact Or.inr h
  have hl := lv_entry ([.ref h]) (n := 3) (Nat.le_of_ble_eq_true rfl)
  rw [lg_entry_eq]
  generalize (lg_sl ([.ref h]) ++ List.replicate (3 - (lg_sl ([.ref h])).length) Slot.unset).toArray = ls at hl ⊢
  have hl : lv_has ls 3 [(0, .ref h)] := hl
  obtain ⟨H, hH0⟩ : ∃ H, H = s.heap := ⟨_, rfl⟩
  have hS : va_S A s.heap H [] := by rw [hH0]; exact va_S.rf
  have hP : va_P D vwCl [(h, oX11 th aw ai ab ac hi re aP ta po en be de fa a5 sp av an ak ne aW aC ag aT aN aF), (aw, kcI cI 2179 fw), (aP, .inl (cB, 400, .inl ft))] H := by rw [hH0]; exact hP
  refine kHeap hH0 ?_
  clear hH0
  refine lv_aload_n hx hb dX11_readCampLine_0 rfl (lv_at hl 0 rfl) ?_
  obtain ⟨q1, q2, hR3, hT4⟩ := kTx_1 hE.2.2
  refine va_ldcS hx hb hown hR3 dX11_readCampLine_1 ?_
  refine kpurei (wc := [(h, oX11 th aw ai ab ac hi re aP ta po en be de fa a5 sp av an ak ne aW aC ag aT aN aF), (aP, .inl (cB, 400, .inl ft))]) hP hD hS hA [0, 2] rfl (by decide) (fun hPc hDc hFc => va_runV (As := [.ref q1]) (rest := []) ⟨hx, hb, hml, hown, hts⟩ (r_isWord l D cI cJ cB cC h th aw ai ab ac hi re aP ta po en be de fa a5 sp av an ak ne aW aC ag aT aN aF ft q1 kSb1 q2 H.size H_po H_en H_be kSb1_le) (cwV 1 hts gX11_readCampLine_X11_isWord rfl rfl rfl ⟨rfl, hdX11_isWord⟩ ⟨Nat.le_of_ble_eq_true rfl, Nat.le_of_ble_eq_true rfl⟩) ⟨kBlindT, va_recv hK hPc (ci := 10) (q0 := 0) rfl rfl, fun U hU hW => ⟨rfl, by rw [hU], hN.warm hW, hE.pass hS hFc hW hU, hT4.pass hS hFc hW hU, by rw [hU]; exact hPc, va_K.moved hW.alike hK, hDc⟩⟩ rfl rfl hl.1 rfl (lv_room (Nat.le_of_ble_eq_true rfl)) dX11_readCampLine_3 ⟨Nat.le_of_ble_eq_true rfl, Nat.le_of_ble_eq_true rfl⟩) (fun r5 u H locs hw hP hS => ?_)
  obtain ⟨k6, k7, k8⟩ := hw
  refine lv_if_eq (tgt := 14) hx hb dX11_readCampLine_6 (by decide) (fun c9 => ?_) (fun c9 => ?_)
  · skip
    have k10 : Rg r5 0 0 := rg_q1 (eqI c9) k6 (rg_lit (n := 0) (by decide)) (by decide)
    refine lv_aload_n hx hb dX11_readCampLine_14 rfl (lv_at hl 0 rfl) ?_
    obtain ⟨q11, q12, hR13, hT14⟩ := kTx_8 hE.2.2
    refine va_ldcS hx hb hown hR13 dX11_readCampLine_15 ?_
    refine kpurei (wc := [(h, oX11 th aw ai ab ac hi re aP ta po en be de fa a5 sp av an ak ne aW aC ag aT aN aF), (aP, .inl (cB, 400, .inl ft))]) hP hD hS hA [0, 2] rfl (by decide) (fun hPc hDc hFc => va_runV (As := [.ref q11]) (rest := []) ⟨hx, hb, hml, hown, hts⟩ (r_isWord l D cI cJ cB cC h th aw ai ab ac hi re aP ta po en be de fa a5 sp av an ak ne aW aC ag aT aN aF ft q11 kSb8 q12 H.size H_po H_en H_be kSb8_le) (cwV 1 hts gX11_readCampLine_X11_isWord rfl rfl rfl ⟨rfl, hdX11_isWord⟩ ⟨Nat.le_of_ble_eq_true rfl, Nat.le_of_ble_eq_true rfl⟩) ⟨kBlindT, va_recv hK hPc (ci := 10) (q0 := 0) rfl rfl, fun U hU hW => ⟨rfl, by rw [hU], hN.warm hW, hE.pass hS hFc hW hU, hT14.pass hS hFc hW hU, by rw [hU]; exact hPc, va_K.moved hW.alike hK, hDc⟩⟩ rfl rfl hl.1 rfl (lv_room (Nat.le_of_ble_eq_true rfl)) dX11_readCampLine_17 ⟨Nat.le_of_ble_eq_true rfl, Nat.le_of_ble_eq_true rfl⟩) (fun r15 u H locs hw hP hS => ?_)
    obtain ⟨k16, k17, k18⟩ := hw
    refine lv_if_eq (tgt := 28) hx hb dX11_readCampLine_20 (by decide) (fun c19 => ?_) (fun c19 => ?_)
    · skip
      have k20 : Rg r15 0 0 := rg_q1 (eqI c19) k16 (rg_lit (n := 0) (by decide)) (by decide)
      refine lv_aload_n hx hb dX11_readCampLine_28 rfl (lv_at hl 0 rfl) ?_
      obtain ⟨q21, q22, hR23, hT24⟩ := kTx_12 hE.2.2
      refine va_ldcS hx hb hown hR23 dX11_readCampLine_29 ?_
      refine kpurei (wc := [(h, oX11 th aw ai ab ac hi re aP ta po en be de fa a5 sp av an ak ne aW aC ag aT aN aF), (aP, .inl (cB, 400, .inl ft))]) hP hD hS hA [0, 2] rfl (by decide) (fun hPc hDc hFc => va_runV (As := [.ref q21]) (rest := []) ⟨hx, hb, hml, hown, hts⟩ (r_isWord l D cI cJ cB cC h th aw ai ab ac hi re aP ta po en be de fa a5 sp av an ak ne aW aC ag aT aN aF ft q21 kSb12 q22 H.size H_po H_en H_be kSb12_le) (cwV 1 hts gX11_readCampLine_X11_isWord rfl rfl rfl ⟨rfl, hdX11_isWord⟩ ⟨Nat.le_of_ble_eq_true rfl, Nat.le_of_ble_eq_true rfl⟩) ⟨kBlindT, va_recv hK hPc (ci := 10) (q0 := 0) rfl rfl, fun U hU hW => ⟨rfl, by rw [hU], hN.warm hW, hE.pass hS hFc hW hU, hT24.pass hS hFc hW hU, by rw [hU]; exact hPc, va_K.moved hW.alike hK, hDc⟩⟩ rfl rfl hl.1 rfl (lv_room (Nat.le_of_ble_eq_true rfl)) dX11_readCampLine_31 ⟨Nat.le_of_ble_eq_true rfl, Nat.le_of_ble_eq_true rfl⟩) (fun r25 u H locs hw hP hS => ?_)
      obtain ⟨k26, k27, k28⟩ := hw
      refine lv_if_eq (tgt := 42) hx hb dX11_readCampLine_34 (by decide) (fun c29 => ?_) (fun c29 => ?_)
      · skip
        have k30 : Rg r25 0 0 := rg_q1 (eqI c29) k26 (rg_lit (n := 0) (by decide)) (by decide)
        refine lv_aload_n hx hb dX11_readCampLine_42 rfl (lv_at hl 0 rfl) ?_
        obtain ⟨q31, q32, hR33, hT34⟩ := kTx_13 hE.2.2
        refine va_ldcS hx hb hown hR33 dX11_readCampLine_43 ?_
        refine kpurei (wc := [(h, oX11 th aw ai ab ac hi re aP ta po en be de fa a5 sp av an ak ne aW aC ag aT aN aF), (aP, .inl (cB, 400, .inl ft))]) hP hD hS hA [0, 2] rfl (by decide) (fun hPc hDc hFc => va_runV (As := [.ref q31]) (rest := []) ⟨hx, hb, hml, hown, hts⟩ (r_isWord l D cI cJ cB cC h th aw ai ab ac hi re aP ta po en be de fa a5 sp av an ak ne aW aC ag aT aN aF ft q31 kSb13 q32 H.size H_po H_en H_be kSb13_le) (cwV 1 hts gX11_readCampLine_X11_isWord rfl rfl rfl ⟨rfl, hdX11_isWord⟩ ⟨Nat.le_of_ble_eq_true rfl, Nat.le_of_ble_eq_true rfl⟩) ⟨kBlindT, va_recv hK hPc (ci := 10) (q0 := 0) rfl rfl, fun U hU hW => ⟨rfl, by rw [hU], hN.warm hW, hE.pass hS hFc hW hU, hT34.pass hS hFc hW hU, by rw [hU]; exact hPc, va_K.moved hW.alike hK, hDc⟩⟩ rfl rfl hl.1 rfl (lv_room (Nat.le_of_ble_eq_true rfl)) dX11_readCampLine_45 ⟨Nat.le_of_ble_eq_true rfl, Nat.le_of_ble_eq_true rfl⟩) (fun r35 u H locs hw hP hS => ?_)
        obtain ⟨k36, k37, k38⟩ := hw
        refine lv_istore_n (lv' := [(1, .int r35), (0, .ref h)]) hx hb dX11_readCampLine_48 rfl hl (by decide) rfl (fun ls hl => ?_)
        refine lv_iload_n hx hb dX11_readCampLine_49 rfl (lv_at hl 0 rfl) ?_
        refine lv_if_eq (tgt := 58) hx hb dX11_readCampLine_50 (by decide) (fun c64 => ?_) (fun c64 => ?_)
        · skip
          have k65 : Rg r35 0 0 := rg_q1 (eqI c64) k36 (rg_lit (n := 0) (by decide)) (by decide)
          refine lv_aload_n hx hb dX11_readCampLine_58 rfl (lv_at hl 1 rfl) ?_
          obtain ⟨q66, q67, hR68, hT69⟩ := kTx_14 hE.2.2
          refine va_ldcS hx hb hown hR68 dX11_readCampLine_59 ?_
          refine kpurei (wc := [(h, oX11 th aw ai ab ac hi re aP ta po en be de fa a5 sp av an ak ne aW aC ag aT aN aF), (aP, .inl (cB, 400, .inl ft))]) hP hD hS hA [0, 2] rfl (by decide) (fun hPc hDc hFc => va_runV (As := [.ref q66]) (rest := []) ⟨hx, hb, hml, hown, hts⟩ (r_isWord l D cI cJ cB cC h th aw ai ab ac hi re aP ta po en be de fa a5 sp av an ak ne aW aC ag aT aN aF ft q66 kSb14 q67 H.size H_po H_en H_be kSb14_le) (cwV 1 hts gX11_readCampLine_X11_isWord rfl rfl rfl ⟨rfl, hdX11_isWord⟩ ⟨Nat.le_of_ble_eq_true rfl, Nat.le_of_ble_eq_true rfl⟩) ⟨kBlindT, va_recv hK hPc (ci := 10) (q0 := 0) rfl rfl, fun U hU hW => ⟨rfl, by rw [hU], hN.warm hW, hE.pass hS hFc hW hU, hT69.pass hS hFc hW hU, by rw [hU]; exact hPc, va_K.moved hW.alike hK, hDc⟩⟩ rfl rfl hl.1 rfl (lv_room (Nat.le_of_ble_eq_true rfl)) dX11_readCampLine_61 ⟨Nat.le_of_ble_eq_true rfl, Nat.le_of_ble_eq_true rfl⟩) (fun r70 u H locs hw hP hS => ?_)
          obtain ⟨k71, k72, k73⟩ := hw
          refine lv_if_eq (tgt := 72) hx hb dX11_readCampLine_64 (by decide) (fun c74 => ?_) (fun c74 => ?_)
          · skip
            have k75 : Rg r70 0 0 := rg_q1 (eqI c74) k71 (rg_lit (n := 0) (by decide)) (by decide)
            refine lv_aload_n hx hb dX11_readCampLine_72 rfl (lv_at hl 1 rfl) ?_
            obtain ⟨q76, q77, hR78, hT79⟩ := kTx_15 hE.2.2
            refine va_ldcS hx hb hown hR78 dX11_readCampLine_73 ?_
            refine kpurei (wc := [(h, oX11 th aw ai ab ac hi re aP ta po en be de fa a5 sp av an ak ne aW aC ag aT aN aF), (aP, .inl (cB, 400, .inl ft))]) hP hD hS hA [0, 2] rfl (by decide) (fun hPc hDc hFc => va_runV (As := [.ref q76]) (rest := []) ⟨hx, hb, hml, hown, hts⟩ (r_isWord l D cI cJ cB cC h th aw ai ab ac hi re aP ta po en be de fa a5 sp av an ak ne aW aC ag aT aN aF ft q76 kSb15 q77 H.size H_po H_en H_be kSb15_le) (cwV 1 hts gX11_readCampLine_X11_isWord rfl rfl rfl ⟨rfl, hdX11_isWord⟩ ⟨Nat.le_of_ble_eq_true rfl, Nat.le_of_ble_eq_true rfl⟩) ⟨kBlindT, va_recv hK hPc (ci := 10) (q0 := 0) rfl rfl, fun U hU hW => ⟨rfl, by rw [hU], hN.warm hW, hE.pass hS hFc hW hU, hT79.pass hS hFc hW hU, by rw [hU]; exact hPc, va_K.moved hW.alike hK, hDc⟩⟩ rfl rfl hl.1 rfl (lv_room (Nat.le_of_ble_eq_true rfl)) dX11_readCampLine_75 ⟨Nat.le_of_ble_eq_true rfl, Nat.le_of_ble_eq_true rfl⟩) (fun r80 u H locs hw hP hS => ?_)
            obtain ⟨k81, k82, k83⟩ := hw
            refine lv_if_eq (tgt := 86) hx hb dX11_readCampLine_78 (by decide) (fun c84 => ?_) (fun c84 => ?_)
            · skip
              have k85 : Rg r80 0 0 := rg_q1 (eqI c84) k81 (rg_lit (n := 0) (by decide)) (by decide)
              refine lv_iconst (v := (-1)) hx hb dX11_readCampLine_86 (by decide) ?_
              refine lv_istore_n (lv' := [(2, .int (-1)), (1, .int r35), (0, .ref h)]) hx hb dX11_readCampLine_87 rfl hl (by decide) rfl (fun ls hl => ?_)
              refine lv_iload_n hx hb dX11_readCampLine_88 rfl (lv_at hl 0 rfl) ?_
              refine lv_if_ge (tgt := 94) hx hb dX11_readCampLine_89 (by decide) (fun c86 => absurd c86 (by decide)) (fun _ => ?_)
              refine lv_iconst (v := 0) hx hb dX11_readCampLine_92 (by decide) ?_
              have hP9 := hP.sub (ws' := [(h, oX11 th aw ai ab ac hi re aP ta po en be de fa a5 sp av an ak ne aW aC ag aT aN aF), (aw, kcI cI 2179 fw), (aP, .inl (cB, 400, .inl ft))]) [0, 1, 2] rfl
              have hD9 := hD.sub (ws' := [(h, oX11 th aw ai ab ac hi re aP ta po en be de fa a5 sp av an ak ne aW aC ag aT aN aF), (aw, kcI cI 2179 fw), (aP, .inl (cB, 400, .inl ft))]) [0, 1, 2] (by decide) rfl
              exact W.zret (v := 0) hx hb hr (by decide) (fun t ht hW => ⟨⟨0, (po, be, fw), rfl, ⟨H_po, H_fw_B, H_fw_L, H_fw_W, (kLet_eq (k8).symm (kif_t (eqI c9) (kLet_eq (k18).symm (kif_t (eqI c19) (kLet_eq (k28).symm (kif_t (eqI c29) (kLet_eq (k38).symm (kif_t (eqI c64) (kLet_eq (k73).symm (kif_t (eqI c74) (kLet_eq (k83).symm (kif_t (eqI c84) rfl)))))))))))), (Or.inl rfl)⟩, by rw [ht]; exact hP9, va_K.moved hW.alike hK, hD9⟩, hS.F ht⟩) hS.2.2 dX11_readCampLine_93
            · skip
              have k87 : Rg r80 1 1 := rg_n1 (neI c84) k81 (rg_lit (n := 0) (by decide)) (by decide)
              refine lv_bipush (v := 8) hx hb dX11_readCampLine_81 (by decide) ?_
              refine lv_goto (tgt := 87) hx hb dX11_readCampLine_83 (by decide) ?_
              refine lv_istore_n (lv' := [(2, .int 8), (1, .int r35), (0, .ref h)]) hx hb dX11_readCampLine_87 rfl hl (by decide) rfl (fun ls hl => ?_)
              refine lv_iload_n hx hb dX11_readCampLine_88 rfl (lv_at hl 0 rfl) ?_
              refine lv_if_ge (tgt := 94) hx hb dX11_readCampLine_89 (by decide) (fun _ => ?_) (fun c88 => absurd (by decide) c88)
              refine lv_aload_n hx hb dX11_readCampLine_94 rfl (lv_at hl 2 rfl) ?_
              refine va_get (D := D) (ci := 10) (v := .ref aw) (C := RX11) (T := TX11) (N := 26) hx hb hts iG_X11 hown hK hP 0 rfl rfl 1 (by decide) (hts _ w5_3) (fun _ h9 => h9) rfl dX11_readCampLine_95 ?_
              refine lv_iload_n hx hb dX11_readCampLine_98 rfl (lv_at hl 0 rfl) ?_
              refine lv_aload_n hx hb dX11_readCampLine_99 rfl (lv_at hl 2 rfl) ?_
              refine lv_iconst (v := 0) hx hb dX11_readCampLine_100 (by decide) ?_
              refine lv_iload_n hx hb dX11_readCampLine_101 rfl (lv_at hl 1 rfl) ?_
              refine lv_if_eq (tgt := 110) hx hb dX11_readCampLine_102 (by decide) (fun _ => ?_) (fun c90 => absurd (rg_eq k65 (rg_lit (n := 0) (by decide)) (by decide)) c90)
              refine lv_bipush (v := 100) hx hb dX11_readCampLine_110 (by decide) ?_
              refine kcalli (wc := [(h, oX11 th aw ai ab ac hi re aP ta po en be de fa a5 sp av an ak ne aW aC ag aT aN aF), (aP, .inl (cB, 400, .inl ft))]) (wr := [(aw, kcI cI 2179 fw)]) hP hD hS hA [0, 2] [1] rfl rfl (by decide) (by decide) (by decide) (fun hPc hDc hFc => va_runV (As := [.int 0, .int 100]) (rest := [.int 8, .ref aw]) ⟨hx, hb, hml, hown, hts⟩ (r_number_set l D cI cJ cB cC h th aw ai ab ac hi re aP ta po en be de fa a5 sp av an ak ne aW aC ag aT aN aF ft 100 H.size H_po H_en (rg_w (rg_lit (n := 100) (by decide)) (by decide))) (cwV 2 hts gX11_readCampLine_X11_number rfl rfl rfl ⟨rfl, hdX11_number⟩ ⟨Nat.le_of_ble_eq_true rfl, Nat.le_of_ble_eq_true rfl⟩) ⟨kBlind, va_recv hK hPc (ci := 10) (q0 := 0) rfl rfl, fun U hU hW => ⟨rfl, by rw [hU], hN.warm hW, hE.pass hS hFc hW hU, by rw [hU]; exact hPc, va_K.moved hW.alike hK, hDc⟩⟩ rfl rfl hl.1 rfl (lv_room (Nat.le_of_ble_eq_true rfl)) dX11_readCampLine_112 ⟨Nat.le_of_ble_eq_true rfl, Nat.le_of_ble_eq_true rfl⟩) (fun r91 u H locs hw hP hD hS => ?_)
              obtain ⟨x92, x93⟩ := u
              have hP : va_P D vwCl [(aw, kcI cI 2179 fw), (h, oX11 th aw ai ab ac hi re aP ta x92 en x93 de fa a5 sp av an ak ne aW aC ag aT aN aF), (aP, .inl (cB, 400, .inl ft))] H := hP
              have hD : va_D A [(aw, kcI cI 2179 fw), (h, oX11 th aw ai ab ac hi re aP ta x92 en x93 de fa a5 sp av an ak ne aW aC ag aT aN aF), (aP, .inl (cB, 400, .inl ft))] := hD
              obtain ⟨k94, k95, k96, k97, k98, k99⟩ := hw
              refine va_iast hx hb hK hP hD hS 0 0 rfl rfl (rg_in (rg_lit (n := 8) (by decide)) (by decide)) dX11_readCampLine_115 (fun H locs hP hD hS => ?_)
              have hP : va_P D vwCl [(aw, kcI cI 2179 (upd fw (8 : Int32).toNatClampNeg r91)), (h, oX11 th aw ai ab ac hi re aP ta x92 en x93 de fa a5 sp av an ak ne aW aC ag aT aN aF), (aP, .inl (cB, 400, .inl ft))] H := hP
              have hD : va_D A [(aw, kcI cI 2179 (upd fw (8 : Int32).toNatClampNeg r91)), (h, oX11 th aw ai ab ac hi re aP ta x92 en x93 de fa a5 sp av an ak ne aW aC ag aT aN aF), (aP, .inl (cB, 400, .inl ft))] := hD
              have k101 : wW (upd fw (8 : Int32).toNatClampNeg r91) := wW_lo H_fw_W (rg_lit (n := 8) (by decide)) (by decide)
              have k102 : wB (upd fw (8 : Int32).toNatClampNeg r91) := wB_lo H_fw_B H_fw_W (rg_lit (n := 8) (by decide)) (by decide)
              have k103 : wL (upd fw (8 : Int32).toNatClampNeg r91) := wL_out H_fw_L (rg_lit (n := 8) (by decide)) (by decide)
              generalize hg100 : (upd fw (8 : Int32).toNatClampNeg r91) = g100 at hP hD k101 k102 k103
              refine lv_aload_n hx hb dX11_readCampLine_116 rfl (lv_at hl 2 rfl) ?_
              refine va_get (D := D) (ci := 10) (v := .ref aw) (C := RX11) (T := TX11) (N := 26) hx hb hts iG_X11 hown hK hP 1 rfl rfl 1 (by decide) (hts _ w5_3) (fun _ h9 => h9) rfl dX11_readCampLine_117 ?_
              refine lv_iload_n hx hb dX11_readCampLine_120 rfl (lv_at hl 0 rfl) ?_
              refine va_iald hx hb hK hP 0 0 rfl rfl (rg_in (rg_lit (n := 8) (by decide)) (by decide)) dX11_readCampLine_121 ?_
              refine lv_topi (fun x104 ex104 => ?_)
              refine lv_if_lt (tgt := 129) hx hb dX11_readCampLine_122 (by decide) (fun c108 => ?_) (fun c108 => ?_)
              · skip
                have k109 : Rg x104 (-2147483648) (-1) := rg_l1 (ltI c108) (rg_any x104) (rg_lit (n := 0) (by decide)) (by decide)
                refine lv_iconst (v := 0) hx hb dX11_readCampLine_129 (by decide) ?_
                have hP9 := hP.sub (ws' := [(h, oX11 th aw ai ab ac hi re aP ta x92 en x93 de fa a5 sp av an ak ne aW aC ag aT aN aF), (aw, kcI cI 2179 g100), (aP, .inl (cB, 400, .inl ft))]) [1, 0, 2] rfl
                have hD9 := hD.sub (ws' := [(h, oX11 th aw ai ab ac hi re aP ta x92 en x93 de fa a5 sp av an ak ne aW aC ag aT aN aF), (aw, kcI cI 2179 g100), (aP, .inl (cB, 400, .inl ft))]) [1, 0, 2] (by decide) rfl
                exact W.zret (v := 0) hx hb hr (by decide) (fun t ht hW => ⟨⟨0, (x92, x93, g100), rfl, ⟨k94, k102, k103, k101, (kLet_eq (k8).symm (kif_t (eqI c9) (kLet_eq (k18).symm (kif_t (eqI c19) (kLet_eq (k28).symm (kif_t (eqI c29) (kLet_eq (k38).symm (kif_t (eqI c64) (kLet_eq (k73).symm (kif_t (eqI c74) (kLet_eq (k83).symm (kif_f (neI c84) (kC_eq k99 (kC_eq rfl (kLet_eq (ke_st hg100) (kLet_eq (ke_ld ex104) (kif_t (ltI c108) rfl))))))))))))))))), (Or.inl rfl)⟩, by rw [ht]; exact hP9, va_K.moved hW.alike hK, hD9⟩, hS.F ht⟩) hS.2.2 dX11_readCampLine_130
              · skip
                have k110 : Rg x104 0 2147483647 := rg_e2 (nltI c108) (rg_lit (n := 0) (by decide)) (rg_any x104) (by decide)
                refine lv_iconst (v := 1) hx hb dX11_readCampLine_125 (by decide) ?_
                refine lv_goto (tgt := 130) hx hb dX11_readCampLine_126 (by decide) ?_
                have hP9 := hP.sub (ws' := [(h, oX11 th aw ai ab ac hi re aP ta x92 en x93 de fa a5 sp av an ak ne aW aC ag aT aN aF), (aw, kcI cI 2179 g100), (aP, .inl (cB, 400, .inl ft))]) [1, 0, 2] rfl
                have hD9 := hD.sub (ws' := [(h, oX11 th aw ai ab ac hi re aP ta x92 en x93 de fa a5 sp av an ak ne aW aC ag aT aN aF), (aw, kcI cI 2179 g100), (aP, .inl (cB, 400, .inl ft))]) [1, 0, 2] (by decide) rfl
                exact W.zret (v := 1) hx hb hr (by decide) (fun t ht hW => ⟨⟨1, (x92, x93, g100), rfl, ⟨k94, k102, k103, k101, (kLet_eq (k8).symm (kif_t (eqI c9) (kLet_eq (k18).symm (kif_t (eqI c19) (kLet_eq (k28).symm (kif_t (eqI c29) (kLet_eq (k38).symm (kif_t (eqI c64) (kLet_eq (k73).symm (kif_t (eqI c74) (kLet_eq (k83).symm (kif_f (neI c84) (kC_eq k99 (kC_eq rfl (kLet_eq (ke_st hg100) (kLet_eq (ke_ld ex104) (kif_f (xF_lt c108) rfl))))))))))))))))), (Or.inr rfl)⟩, by rw [ht]; exact hP9, va_K.moved hW.alike hK, hD9⟩, hS.F ht⟩) hS.2.2 dX11_readCampLine_130
          · skip
            have k111 : Rg r70 1 1 := rg_n1 (neI c74) k71 (rg_lit (n := 0) (by decide)) (by decide)
            refine lv_bipush (v := 7) hx hb dX11_readCampLine_67 (by decide) ?_
            refine lv_goto (tgt := 87) hx hb dX11_readCampLine_69 (by decide) ?_
            refine lv_istore_n (lv' := [(2, .int 7), (1, .int r35), (0, .ref h)]) hx hb dX11_readCampLine_87 rfl hl (by decide) rfl (fun ls hl => ?_)
            refine lv_iload_n hx hb dX11_readCampLine_88 rfl (lv_at hl 0 rfl) ?_
            refine lv_if_ge (tgt := 94) hx hb dX11_readCampLine_89 (by decide) (fun _ => ?_) (fun c112 => absurd (by decide) c112)
            refine lv_aload_n hx hb dX11_readCampLine_94 rfl (lv_at hl 2 rfl) ?_
            refine va_get (D := D) (ci := 10) (v := .ref aw) (C := RX11) (T := TX11) (N := 26) hx hb hts iG_X11 hown hK hP 0 rfl rfl 1 (by decide) (hts _ w5_3) (fun _ h9 => h9) rfl dX11_readCampLine_95 ?_
            refine lv_iload_n hx hb dX11_readCampLine_98 rfl (lv_at hl 0 rfl) ?_
            refine lv_aload_n hx hb dX11_readCampLine_99 rfl (lv_at hl 2 rfl) ?_
            refine lv_iconst (v := 0) hx hb dX11_readCampLine_100 (by decide) ?_
            refine lv_iload_n hx hb dX11_readCampLine_101 rfl (lv_at hl 1 rfl) ?_
            refine lv_if_eq (tgt := 110) hx hb dX11_readCampLine_102 (by decide) (fun _ => ?_) (fun c114 => absurd (rg_eq k65 (rg_lit (n := 0) (by decide)) (by decide)) c114)
            refine lv_bipush (v := 100) hx hb dX11_readCampLine_110 (by decide) ?_
            refine kcalli (wc := [(h, oX11 th aw ai ab ac hi re aP ta po en be de fa a5 sp av an ak ne aW aC ag aT aN aF), (aP, .inl (cB, 400, .inl ft))]) (wr := [(aw, kcI cI 2179 fw)]) hP hD hS hA [0, 2] [1] rfl rfl (by decide) (by decide) (by decide) (fun hPc hDc hFc => va_runV (As := [.int 0, .int 100]) (rest := [.int 7, .ref aw]) ⟨hx, hb, hml, hown, hts⟩ (r_number_set l D cI cJ cB cC h th aw ai ab ac hi re aP ta po en be de fa a5 sp av an ak ne aW aC ag aT aN aF ft 100 H.size H_po H_en (rg_w (rg_lit (n := 100) (by decide)) (by decide))) (cwV 2 hts gX11_readCampLine_X11_number rfl rfl rfl ⟨rfl, hdX11_number⟩ ⟨Nat.le_of_ble_eq_true rfl, Nat.le_of_ble_eq_true rfl⟩) ⟨kBlind, va_recv hK hPc (ci := 10) (q0 := 0) rfl rfl, fun U hU hW => ⟨rfl, by rw [hU], hN.warm hW, hE.pass hS hFc hW hU, by rw [hU]; exact hPc, va_K.moved hW.alike hK, hDc⟩⟩ rfl rfl hl.1 rfl (lv_room (Nat.le_of_ble_eq_true rfl)) dX11_readCampLine_112 ⟨Nat.le_of_ble_eq_true rfl, Nat.le_of_ble_eq_true rfl⟩) (fun r115 u H locs hw hP hD hS => ?_)
            obtain ⟨x116, x117⟩ := u
            have hP : va_P D vwCl [(aw, kcI cI 2179 fw), (h, oX11 th aw ai ab ac hi re aP ta x116 en x117 de fa a5 sp av an ak ne aW aC ag aT aN aF), (aP, .inl (cB, 400, .inl ft))] H := hP
            have hD : va_D A [(aw, kcI cI 2179 fw), (h, oX11 th aw ai ab ac hi re aP ta x116 en x117 de fa a5 sp av an ak ne aW aC ag aT aN aF), (aP, .inl (cB, 400, .inl ft))] := hD
            obtain ⟨k118, k119, k120, k121, k122, k123⟩ := hw
            refine va_iast hx hb hK hP hD hS 0 0 rfl rfl (rg_in (rg_lit (n := 7) (by decide)) (by decide)) dX11_readCampLine_115 (fun H locs hP hD hS => ?_)
            have hP : va_P D vwCl [(aw, kcI cI 2179 (upd fw (7 : Int32).toNatClampNeg r115)), (h, oX11 th aw ai ab ac hi re aP ta x116 en x117 de fa a5 sp av an ak ne aW aC ag aT aN aF), (aP, .inl (cB, 400, .inl ft))] H := hP
            have hD : va_D A [(aw, kcI cI 2179 (upd fw (7 : Int32).toNatClampNeg r115)), (h, oX11 th aw ai ab ac hi re aP ta x116 en x117 de fa a5 sp av an ak ne aW aC ag aT aN aF), (aP, .inl (cB, 400, .inl ft))] := hD
            have k125 : wW (upd fw (7 : Int32).toNatClampNeg r115) := wW_lo H_fw_W (rg_lit (n := 7) (by decide)) (by decide)
            have k126 : wB (upd fw (7 : Int32).toNatClampNeg r115) := wB_lo H_fw_B H_fw_W (rg_lit (n := 7) (by decide)) (by decide)
            have k127 : wL (upd fw (7 : Int32).toNatClampNeg r115) := wL_out H_fw_L (rg_lit (n := 7) (by decide)) (by decide)
            generalize hg124 : (upd fw (7 : Int32).toNatClampNeg r115) = g124 at hP hD k125 k126 k127
            refine lv_aload_n hx hb dX11_readCampLine_116 rfl (lv_at hl 2 rfl) ?_
            refine va_get (D := D) (ci := 10) (v := .ref aw) (C := RX11) (T := TX11) (N := 26) hx hb hts iG_X11 hown hK hP 1 rfl rfl 1 (by decide) (hts _ w5_3) (fun _ h9 => h9) rfl dX11_readCampLine_117 ?_
            refine lv_iload_n hx hb dX11_readCampLine_120 rfl (lv_at hl 0 rfl) ?_
            refine va_iald hx hb hK hP 0 0 rfl rfl (rg_in (rg_lit (n := 7) (by decide)) (by decide)) dX11_readCampLine_121 ?_
            refine lv_topi (fun x128 ex128 => ?_)
            refine lv_if_lt (tgt := 129) hx hb dX11_readCampLine_122 (by decide) (fun c132 => ?_) (fun c132 => ?_)
            · skip
              have k133 : Rg x128 (-2147483648) (-1) := rg_l1 (ltI c132) (rg_any x128) (rg_lit (n := 0) (by decide)) (by decide)
              refine lv_iconst (v := 0) hx hb dX11_readCampLine_129 (by decide) ?_
              have hP9 := hP.sub (ws' := [(h, oX11 th aw ai ab ac hi re aP ta x116 en x117 de fa a5 sp av an ak ne aW aC ag aT aN aF), (aw, kcI cI 2179 g124), (aP, .inl (cB, 400, .inl ft))]) [1, 0, 2] rfl
              have hD9 := hD.sub (ws' := [(h, oX11 th aw ai ab ac hi re aP ta x116 en x117 de fa a5 sp av an ak ne aW aC ag aT aN aF), (aw, kcI cI 2179 g124), (aP, .inl (cB, 400, .inl ft))]) [1, 0, 2] (by decide) rfl
              exact W.zret (v := 0) hx hb hr (by decide) (fun t ht hW => ⟨⟨0, (x116, x117, g124), rfl, ⟨k118, k126, k127, k125, (kLet_eq (k8).symm (kif_t (eqI c9) (kLet_eq (k18).symm (kif_t (eqI c19) (kLet_eq (k28).symm (kif_t (eqI c29) (kLet_eq (k38).symm (kif_t (eqI c64) (kLet_eq (k73).symm (kif_f (neI c74) (kC_eq k123 (kC_eq rfl (kLet_eq (ke_st hg124) (kLet_eq (ke_ld ex128) (kif_t (ltI c132) rfl))))))))))))))), (Or.inl rfl)⟩, by rw [ht]; exact hP9, va_K.moved hW.alike hK, hD9⟩, hS.F ht⟩) hS.2.2 dX11_readCampLine_130
            · skip
              have k134 : Rg x128 0 2147483647 := rg_e2 (nltI c132) (rg_lit (n := 0) (by decide)) (rg_any x128) (by decide)
              refine lv_iconst (v := 1) hx hb dX11_readCampLine_125 (by decide) ?_
              refine lv_goto (tgt := 130) hx hb dX11_readCampLine_126 (by decide) ?_
              have hP9 := hP.sub (ws' := [(h, oX11 th aw ai ab ac hi re aP ta x116 en x117 de fa a5 sp av an ak ne aW aC ag aT aN aF), (aw, kcI cI 2179 g124), (aP, .inl (cB, 400, .inl ft))]) [1, 0, 2] rfl
              have hD9 := hD.sub (ws' := [(h, oX11 th aw ai ab ac hi re aP ta x116 en x117 de fa a5 sp av an ak ne aW aC ag aT aN aF), (aw, kcI cI 2179 g124), (aP, .inl (cB, 400, .inl ft))]) [1, 0, 2] (by decide) rfl
              exact W.zret (v := 1) hx hb hr (by decide) (fun t ht hW => ⟨⟨1, (x116, x117, g124), rfl, ⟨k118, k126, k127, k125, (kLet_eq (k8).symm (kif_t (eqI c9) (kLet_eq (k18).symm (kif_t (eqI c19) (kLet_eq (k28).symm (kif_t (eqI c29) (kLet_eq (k38).symm (kif_t (eqI c64) (kLet_eq (k73).symm (kif_f (neI c74) (kC_eq k123 (kC_eq rfl (kLet_eq (ke_st hg124) (kLet_eq (ke_ld ex128) (kif_f (xF_lt c132) rfl))))))))))))))), (Or.inr rfl)⟩, by rw [ht]; exact hP9, va_K.moved hW.alike hK, hD9⟩, hS.F ht⟩) hS.2.2 dX11_readCampLine_130
        · skip
          have k135 : Rg r35 1 1 := rg_n1 (neI c64) k36 (rg_lit (n := 0) (by decide)) (by decide)
          refine lv_bipush (v := 6) hx hb dX11_readCampLine_53 (by decide) ?_
          refine lv_goto (tgt := 87) hx hb dX11_readCampLine_55 (by decide) ?_
          refine lv_istore_n (lv' := [(2, .int 6), (1, .int r35), (0, .ref h)]) hx hb dX11_readCampLine_87 rfl hl (by decide) rfl (fun ls hl => ?_)
          refine lv_iload_n hx hb dX11_readCampLine_88 rfl (lv_at hl 0 rfl) ?_
          refine lv_if_ge (tgt := 94) hx hb dX11_readCampLine_89 (by decide) (fun _ => ?_) (fun c136 => absurd (by decide) c136)
          refine lv_aload_n hx hb dX11_readCampLine_94 rfl (lv_at hl 2 rfl) ?_
          refine va_get (D := D) (ci := 10) (v := .ref aw) (C := RX11) (T := TX11) (N := 26) hx hb hts iG_X11 hown hK hP 0 rfl rfl 1 (by decide) (hts _ w5_3) (fun _ h9 => h9) rfl dX11_readCampLine_95 ?_
          refine lv_iload_n hx hb dX11_readCampLine_98 rfl (lv_at hl 0 rfl) ?_
          refine lv_aload_n hx hb dX11_readCampLine_99 rfl (lv_at hl 2 rfl) ?_
          refine lv_iconst (v := 0) hx hb dX11_readCampLine_100 (by decide) ?_
          refine lv_iload_n hx hb dX11_readCampLine_101 rfl (lv_at hl 1 rfl) ?_
          refine lv_if_eq (tgt := 110) hx hb dX11_readCampLine_102 (by decide) (fun c138 => absurd c138 (rg_neq k135 (rg_lit (n := 0) (by decide)) (by decide))) (fun _ => ?_)
          refine lv_bipush (v := 99) hx hb dX11_readCampLine_105 (by decide) ?_
          refine lv_goto (tgt := 112) hx hb dX11_readCampLine_107 (by decide) ?_
          refine kcalli (wc := [(h, oX11 th aw ai ab ac hi re aP ta po en be de fa a5 sp av an ak ne aW aC ag aT aN aF), (aP, .inl (cB, 400, .inl ft))]) (wr := [(aw, kcI cI 2179 fw)]) hP hD hS hA [0, 2] [1] rfl rfl (by decide) (by decide) (by decide) (fun hPc hDc hFc => va_runV (As := [.int 0, .int 99]) (rest := [.int 6, .ref aw]) ⟨hx, hb, hml, hown, hts⟩ (r_number_99 l D cI cJ cB cC h th aw ai ab ac hi re aP ta po en be de fa a5 sp av an ak ne aW aC ag aT aN aF ft H.size H_po H_en) (cwV 2 hts gX11_readCampLine_X11_number rfl rfl rfl ⟨rfl, hdX11_number⟩ ⟨Nat.le_of_ble_eq_true rfl, Nat.le_of_ble_eq_true rfl⟩) ⟨kBlind, va_recv hK hPc (ci := 10) (q0 := 0) rfl rfl, fun U hU hW => ⟨rfl, by rw [hU], hN.warm hW, hE.pass hS hFc hW hU, by rw [hU]; exact hPc, va_K.moved hW.alike hK, hDc⟩⟩ rfl rfl hl.1 rfl (lv_room (Nat.le_of_ble_eq_true rfl)) dX11_readCampLine_112 ⟨Nat.le_of_ble_eq_true rfl, Nat.le_of_ble_eq_true rfl⟩) (fun r139 u H locs hw hP hD hS => ?_)
          obtain ⟨x140, x141⟩ := u
          have hP : va_P D vwCl [(aw, kcI cI 2179 fw), (h, oX11 th aw ai ab ac hi re aP ta x140 en x141 de fa a5 sp av an ak ne aW aC ag aT aN aF), (aP, .inl (cB, 400, .inl ft))] H := hP
          have hD : va_D A [(aw, kcI cI 2179 fw), (h, oX11 th aw ai ab ac hi re aP ta x140 en x141 de fa a5 sp av an ak ne aW aC ag aT aN aF), (aP, .inl (cB, 400, .inl ft))] := hD
          obtain ⟨k142, k143, k144, k145, k146, k147⟩ := hw
          refine va_iast hx hb hK hP hD hS 0 0 rfl rfl (rg_in (rg_lit (n := 6) (by decide)) (by decide)) dX11_readCampLine_115 (fun H locs hP hD hS => ?_)
          have hP : va_P D vwCl [(aw, kcI cI 2179 (upd fw (6 : Int32).toNatClampNeg r139)), (h, oX11 th aw ai ab ac hi re aP ta x140 en x141 de fa a5 sp av an ak ne aW aC ag aT aN aF), (aP, .inl (cB, 400, .inl ft))] H := hP
          have hD : va_D A [(aw, kcI cI 2179 (upd fw (6 : Int32).toNatClampNeg r139)), (h, oX11 th aw ai ab ac hi re aP ta x140 en x141 de fa a5 sp av an ak ne aW aC ag aT aN aF), (aP, .inl (cB, 400, .inl ft))] := hD
          have k149 : wW (upd fw (6 : Int32).toNatClampNeg r139) := wW_lo H_fw_W (rg_lit (n := 6) (by decide)) (by decide)
          have k150 : wB (upd fw (6 : Int32).toNatClampNeg r139) := wB_lo H_fw_B H_fw_W (rg_lit (n := 6) (by decide)) (by decide)
          have k151 : wL (upd fw (6 : Int32).toNatClampNeg r139) := wL_out H_fw_L (rg_lit (n := 6) (by decide)) (by decide)
          generalize hg148 : (upd fw (6 : Int32).toNatClampNeg r139) = g148 at hP hD k149 k150 k151
          refine lv_aload_n hx hb dX11_readCampLine_116 rfl (lv_at hl 2 rfl) ?_
          refine va_get (D := D) (ci := 10) (v := .ref aw) (C := RX11) (T := TX11) (N := 26) hx hb hts iG_X11 hown hK hP 1 rfl rfl 1 (by decide) (hts _ w5_3) (fun _ h9 => h9) rfl dX11_readCampLine_117 ?_
          refine lv_iload_n hx hb dX11_readCampLine_120 rfl (lv_at hl 0 rfl) ?_
          refine va_iald hx hb hK hP 0 0 rfl rfl (rg_in (rg_lit (n := 6) (by decide)) (by decide)) dX11_readCampLine_121 ?_
          refine lv_topi (fun x152 ex152 => ?_)
          refine lv_if_lt (tgt := 129) hx hb dX11_readCampLine_122 (by decide) (fun c156 => ?_) (fun c156 => ?_)
          · skip
            have k157 : Rg x152 (-2147483648) (-1) := rg_l1 (ltI c156) (rg_any x152) (rg_lit (n := 0) (by decide)) (by decide)
            refine lv_iconst (v := 0) hx hb dX11_readCampLine_129 (by decide) ?_
            have hP9 := hP.sub (ws' := [(h, oX11 th aw ai ab ac hi re aP ta x140 en x141 de fa a5 sp av an ak ne aW aC ag aT aN aF), (aw, kcI cI 2179 g148), (aP, .inl (cB, 400, .inl ft))]) [1, 0, 2] rfl
            have hD9 := hD.sub (ws' := [(h, oX11 th aw ai ab ac hi re aP ta x140 en x141 de fa a5 sp av an ak ne aW aC ag aT aN aF), (aw, kcI cI 2179 g148), (aP, .inl (cB, 400, .inl ft))]) [1, 0, 2] (by decide) rfl
            exact W.zret (v := 0) hx hb hr (by decide) (fun t ht hW => ⟨⟨0, (x140, x141, g148), rfl, ⟨k142, k150, k151, k149, (kLet_eq (k8).symm (kif_t (eqI c9) (kLet_eq (k18).symm (kif_t (eqI c19) (kLet_eq (k28).symm (kif_t (eqI c29) (kLet_eq (k38).symm (kif_f (neI c64) (kC_eq k147 (kC_eq rfl (kLet_eq (ke_st hg148) (kLet_eq (ke_ld ex152) (kif_t (ltI c156) rfl))))))))))))), (Or.inl rfl)⟩, by rw [ht]; exact hP9, va_K.moved hW.alike hK, hD9⟩, hS.F ht⟩) hS.2.2 dX11_readCampLine_130
          · skip
            have k158 : Rg x152 0 2147483647 := rg_e2 (nltI c156) (rg_lit (n := 0) (by decide)) (rg_any x152) (by decide)
            refine lv_iconst (v := 1) hx hb dX11_readCampLine_125 (by decide) ?_
            refine lv_goto (tgt := 130) hx hb dX11_readCampLine_126 (by decide) ?_
            have hP9 := hP.sub (ws' := [(h, oX11 th aw ai ab ac hi re aP ta x140 en x141 de fa a5 sp av an ak ne aW aC ag aT aN aF), (aw, kcI cI 2179 g148), (aP, .inl (cB, 400, .inl ft))]) [1, 0, 2] rfl
            have hD9 := hD.sub (ws' := [(h, oX11 th aw ai ab ac hi re aP ta x140 en x141 de fa a5 sp av an ak ne aW aC ag aT aN aF), (aw, kcI cI 2179 g148), (aP, .inl (cB, 400, .inl ft))]) [1, 0, 2] (by decide) rfl
            exact W.zret (v := 1) hx hb hr (by decide) (fun t ht hW => ⟨⟨1, (x140, x141, g148), rfl, ⟨k142, k150, k151, k149, (kLet_eq (k8).symm (kif_t (eqI c9) (kLet_eq (k18).symm (kif_t (eqI c19) (kLet_eq (k28).symm (kif_t (eqI c29) (kLet_eq (k38).symm (kif_f (neI c64) (kC_eq k147 (kC_eq rfl (kLet_eq (ke_st hg148) (kLet_eq (ke_ld ex152) (kif_f (xF_lt c156) rfl))))))))))))), (Or.inr rfl)⟩, by rw [ht]; exact hP9, va_K.moved hW.alike hK, hD9⟩, hS.F ht⟩) hS.2.2 dX11_readCampLine_130
      · skip
        have k159 : Rg r25 1 1 := rg_n1 (neI c29) k26 (rg_lit (n := 0) (by decide)) (by decide)
        refine lv_aload_n hx hb dX11_readCampLine_37 rfl (lv_at hl 0 rfl) ?_
        refine kcalli (wc := [(h, oX11 th aw ai ab ac hi re aP ta po en be de fa a5 sp av an ak ne aW aC ag aT aN aF), (aw, kcI cI 2179 fw), (aP, .inl (cB, 400, .inl ft))]) (wr := []) hP hD hS hA [0, 1, 2] [] rfl rfl (by decide) (by decide) (by decide) (fun hPc hDc hFc => va_runV (As := []) (rest := []) ⟨hx, hb, hml, hown, hts⟩ (r_readWears l D cI cJ cB cC h th aw ai ab ac hi re aP ta po en be de fa a5 sp av an ak ne aW aC ag aT aN aF fw ft H.size H_po H_en H_fw_W H_fw_B H_fw_L) (cwV 0 hts gX11_readCampLine_X11_readWears rfl rfl rfl ⟨rfl, hdX11_readWears⟩ ⟨Nat.le_of_ble_eq_true rfl, Nat.le_of_ble_eq_true rfl⟩) ⟨kBlind, va_recv hK hPc (ci := 10) (q0 := 0) rfl rfl, fun U hU hW => ⟨rfl, by rw [hU], hN.warm hW, hE.pass hS hFc hW hU, by rw [hU]; exact hPc, va_K.moved hW.alike hK, hDc⟩⟩ rfl rfl hl.1 rfl (lv_room (Nat.le_of_ble_eq_true rfl)) dX11_readCampLine_38 ⟨Nat.le_of_ble_eq_true rfl, Nat.le_of_ble_eq_true rfl⟩) (fun r160 u H locs hw hP hD hS => ?_)
        obtain ⟨x161, x162, g163⟩ := u
        have hP : va_P D vwCl [(h, oX11 th aw ai ab ac hi re aP ta x161 en x162 de fa a5 sp av an ak ne aW aC ag aT aN aF), (aw, kcI cI 2179 g163), (aP, .inl (cB, 400, .inl ft))] H := hP
        have hD : va_D A [(h, oX11 th aw ai ab ac hi re aP ta x161 en x162 de fa a5 sp av an ak ne aW aC ag aT aN aF), (aw, kcI cI 2179 g163), (aP, .inl (cB, 400, .inl ft))] := hD
        obtain ⟨k164, k165, k166, k167, k168, k169, hw⟩ := hw
        rcases hw with rfl | rfl
        · skip
          have hP9 := hP.sub (ws' := [(h, oX11 th aw ai ab ac hi re aP ta x161 en x162 de fa a5 sp av an ak ne aW aC ag aT aN aF), (aw, kcI cI 2179 g163), (aP, .inl (cB, 400, .inl ft))]) [0, 1, 2] rfl
          have hD9 := hD.sub (ws' := [(h, oX11 th aw ai ab ac hi re aP ta x161 en x162 de fa a5 sp av an ak ne aW aC ag aT aN aF), (aw, kcI cI 2179 g163), (aP, .inl (cB, 400, .inl ft))]) [0, 1, 2] (by decide) rfl
          exact W.zret (v := 0) hx hb hr (by decide) (fun t ht hW => ⟨⟨0, (x161, x162, g163), rfl, ⟨k164, k166, k167, k168, (kLet_eq (k8).symm (kif_t (eqI c9) (kLet_eq (k18).symm (kif_t (eqI c19) (kLet_eq (k28).symm (kif_f (neI c29) (kC_eq k169 (kC_eq rfl (kC_eq rfl (kif_t rfl rfl)))))))))), (Or.inl rfl)⟩, by rw [ht]; exact hP9, va_K.moved hW.alike hK, hD9⟩, hS.F ht⟩) hS.2.2 dX11_readCampLine_41
        · skip
          have hP9 := hP.sub (ws' := [(h, oX11 th aw ai ab ac hi re aP ta x161 en x162 de fa a5 sp av an ak ne aW aC ag aT aN aF), (aw, kcI cI 2179 g163), (aP, .inl (cB, 400, .inl ft))]) [0, 1, 2] rfl
          have hD9 := hD.sub (ws' := [(h, oX11 th aw ai ab ac hi re aP ta x161 en x162 de fa a5 sp av an ak ne aW aC ag aT aN aF), (aw, kcI cI 2179 g163), (aP, .inl (cB, 400, .inl ft))]) [0, 1, 2] (by decide) rfl
          exact W.zret (v := 1) hx hb hr (by decide) (fun t ht hW => ⟨⟨1, (x161, x162, g163), rfl, ⟨k164, k166, k167, k168, (kLet_eq (k8).symm (kif_t (eqI c9) (kLet_eq (k18).symm (kif_t (eqI c19) (kLet_eq (k28).symm (kif_f (neI c29) (kC_eq k169 (kC_eq rfl (kC_eq rfl (kif_f (by decide) rfl)))))))))), (Or.inr rfl)⟩, by rw [ht]; exact hP9, va_K.moved hW.alike hK, hD9⟩, hS.F ht⟩) hS.2.2 dX11_readCampLine_41
    · skip
      have k171 : Rg r15 1 1 := rg_n1 (neI c19) k16 (rg_lit (n := 0) (by decide)) (by decide)
      refine lv_aload_n hx hb dX11_readCampLine_23 rfl (lv_at hl 0 rfl) ?_
      refine kcalli (wc := [(h, oX11 th aw ai ab ac hi re aP ta po en be de fa a5 sp av an ak ne aW aC ag aT aN aF), (aw, kcI cI 2179 fw), (aP, .inl (cB, 400, .inl ft))]) (wr := []) hP hD hS hA [0, 1, 2] [] rfl rfl (by decide) (by decide) (by decide) (fun hPc hDc hFc => va_runV (As := []) (rest := []) ⟨hx, hb, hml, hown, hts⟩ (r_readShirt l D cI cJ cB cC h th aw ai ab ac hi re aP ta po en be de fa a5 sp av an ak ne aW aC ag aT aN aF fw ft H.size H_po H_en H_fw_W H_fw_B H_fw_L) (cwV 0 hts gX11_readCampLine_X11_readShirt rfl rfl rfl ⟨rfl, hdX11_readShirt⟩ ⟨Nat.le_of_ble_eq_true rfl, Nat.le_of_ble_eq_true rfl⟩) ⟨kBlind, va_recv hK hPc (ci := 10) (q0 := 0) rfl rfl, fun U hU hW => ⟨rfl, by rw [hU], hN.warm hW, hE.pass hS hFc hW hU, by rw [hU]; exact hPc, va_K.moved hW.alike hK, hDc⟩⟩ rfl rfl hl.1 rfl (lv_room (Nat.le_of_ble_eq_true rfl)) dX11_readCampLine_24 ⟨Nat.le_of_ble_eq_true rfl, Nat.le_of_ble_eq_true rfl⟩) (fun r172 u H locs hw hP hD hS => ?_)
      obtain ⟨x173, x174, g175⟩ := u
      have hP : va_P D vwCl [(h, oX11 th aw ai ab ac hi re aP ta x173 en x174 de fa a5 sp av an ak ne aW aC ag aT aN aF), (aw, kcI cI 2179 g175), (aP, .inl (cB, 400, .inl ft))] H := hP
      have hD : va_D A [(h, oX11 th aw ai ab ac hi re aP ta x173 en x174 de fa a5 sp av an ak ne aW aC ag aT aN aF), (aw, kcI cI 2179 g175), (aP, .inl (cB, 400, .inl ft))] := hD
      obtain ⟨k176, k177, k178, k179, k180, hw⟩ := hw
      rcases hw with rfl | rfl
      · skip
        have hP9 := hP.sub (ws' := [(h, oX11 th aw ai ab ac hi re aP ta x173 en x174 de fa a5 sp av an ak ne aW aC ag aT aN aF), (aw, kcI cI 2179 g175), (aP, .inl (cB, 400, .inl ft))]) [0, 1, 2] rfl
        have hD9 := hD.sub (ws' := [(h, oX11 th aw ai ab ac hi re aP ta x173 en x174 de fa a5 sp av an ak ne aW aC ag aT aN aF), (aw, kcI cI 2179 g175), (aP, .inl (cB, 400, .inl ft))]) [0, 1, 2] (by decide) rfl
        exact W.zret (v := 0) hx hb hr (by decide) (fun t ht hW => ⟨⟨0, (x173, x174, g175), rfl, ⟨k176, k177, k178, k179, (kLet_eq (k8).symm (kif_t (eqI c9) (kLet_eq (k18).symm (kif_f (neI c19) (kC_eq k180 (kC_eq rfl (kC_eq rfl (kif_t rfl rfl)))))))), (Or.inl rfl)⟩, by rw [ht]; exact hP9, va_K.moved hW.alike hK, hD9⟩, hS.F ht⟩) hS.2.2 dX11_readCampLine_27
      · skip
        have hP9 := hP.sub (ws' := [(h, oX11 th aw ai ab ac hi re aP ta x173 en x174 de fa a5 sp av an ak ne aW aC ag aT aN aF), (aw, kcI cI 2179 g175), (aP, .inl (cB, 400, .inl ft))]) [0, 1, 2] rfl
        have hD9 := hD.sub (ws' := [(h, oX11 th aw ai ab ac hi re aP ta x173 en x174 de fa a5 sp av an ak ne aW aC ag aT aN aF), (aw, kcI cI 2179 g175), (aP, .inl (cB, 400, .inl ft))]) [0, 1, 2] (by decide) rfl
        exact W.zret (v := 1) hx hb hr (by decide) (fun t ht hW => ⟨⟨1, (x173, x174, g175), rfl, ⟨k176, k177, k178, k179, (kLet_eq (k8).symm (kif_t (eqI c9) (kLet_eq (k18).symm (kif_f (neI c19) (kC_eq k180 (kC_eq rfl (kC_eq rfl (kif_f (by decide) rfl)))))))), (Or.inr rfl)⟩, by rw [ht]; exact hP9, va_K.moved hW.alike hK, hD9⟩, hS.F ht⟩) hS.2.2 dX11_readCampLine_27
  · skip
    have k182 : Rg r5 1 1 := rg_n1 (neI c9) k6 (rg_lit (n := 0) (by decide)) (by decide)
    refine lv_aload_n hx hb dX11_readCampLine_9 rfl (lv_at hl 0 rfl) ?_
    refine kcalli (wc := [(h, oX11 th aw ai ab ac hi re aP ta po en be de fa a5 sp av an ak ne aW aC ag aT aN aF), (aw, kcI cI 2179 fw), (aP, .inl (cB, 400, .inl ft))]) (wr := []) hP hD hS hA [0, 1, 2] [] rfl rfl (by decide) (by decide) (by decide) (fun hPc hDc hFc => va_runV (As := []) (rest := []) ⟨hx, hb, hml, hown, hts⟩ (r_readMan l D cI cJ cB cC h th aw ai ab ac hi re aP ta po en be de fa a5 sp av an ak ne aW aC ag aT aN aF fw ft H.size H_po H_en H_fw_W H_fw_B H_fw_L) (cwV 0 hts gX11_readCampLine_X11_readMan rfl rfl rfl ⟨rfl, hdX11_readMan⟩ ⟨Nat.le_of_ble_eq_true rfl, Nat.le_of_ble_eq_true rfl⟩) ⟨kBlind, va_recv hK hPc (ci := 10) (q0 := 0) rfl rfl, fun U hU hW => ⟨rfl, by rw [hU], hN.warm hW, hE.pass hS hFc hW hU, by rw [hU]; exact hPc, va_K.moved hW.alike hK, hDc⟩⟩ rfl rfl hl.1 rfl (lv_room (Nat.le_of_ble_eq_true rfl)) dX11_readCampLine_10 ⟨Nat.le_of_ble_eq_true rfl, Nat.le_of_ble_eq_true rfl⟩) (fun r183 u H locs hw hP hD hS => ?_)
    obtain ⟨x184, x185, g186⟩ := u
    have hP : va_P D vwCl [(h, oX11 th aw ai ab ac hi re aP ta x184 en x185 de fa a5 sp av an ak ne aW aC ag aT aN aF), (aw, kcI cI 2179 g186), (aP, .inl (cB, 400, .inl ft))] H := hP
    have hD : va_D A [(h, oX11 th aw ai ab ac hi re aP ta x184 en x185 de fa a5 sp av an ak ne aW aC ag aT aN aF), (aw, kcI cI 2179 g186), (aP, .inl (cB, 400, .inl ft))] := hD
    obtain ⟨k187, k188, k189, k190, k191, hw⟩ := hw
    rcases hw with rfl | rfl
    · skip
      have hP9 := hP.sub (ws' := [(h, oX11 th aw ai ab ac hi re aP ta x184 en x185 de fa a5 sp av an ak ne aW aC ag aT aN aF), (aw, kcI cI 2179 g186), (aP, .inl (cB, 400, .inl ft))]) [0, 1, 2] rfl
      have hD9 := hD.sub (ws' := [(h, oX11 th aw ai ab ac hi re aP ta x184 en x185 de fa a5 sp av an ak ne aW aC ag aT aN aF), (aw, kcI cI 2179 g186), (aP, .inl (cB, 400, .inl ft))]) [0, 1, 2] (by decide) rfl
      exact W.zret (v := 0) hx hb hr (by decide) (fun t ht hW => ⟨⟨0, (x184, x185, g186), rfl, ⟨k187, k188, k189, k190, (kLet_eq (k8).symm (kif_f (neI c9) (kC_eq k191 (kC_eq rfl (kC_eq rfl (kif_t rfl rfl)))))), (Or.inl rfl)⟩, by rw [ht]; exact hP9, va_K.moved hW.alike hK, hD9⟩, hS.F ht⟩) hS.2.2 dX11_readCampLine_13
    · skip
      have hP9 := hP.sub (ws' := [(h, oX11 th aw ai ab ac hi re aP ta x184 en x185 de fa a5 sp av an ak ne aW aC ag aT aN aF), (aw, kcI cI 2179 g186), (aP, .inl (cB, 400, .inl ft))]) [0, 1, 2] rfl
      have hD9 := hD.sub (ws' := [(h, oX11 th aw ai ab ac hi re aP ta x184 en x185 de fa a5 sp av an ak ne aW aC ag aT aN aF), (aw, kcI cI 2179 g186), (aP, .inl (cB, 400, .inl ft))]) [0, 1, 2] (by decide) rfl
      exact W.zret (v := 1) hx hb hr (by decide) (fun t ht hW => ⟨⟨1, (x184, x185, g186), rfl, ⟨k187, k188, k189, k190, (kLet_eq (k8).symm (kif_f (neI c9) (kC_eq k191 (kC_eq rfl (kC_eq rfl (kif_f (by decide) rfl)))))), (Or.inr rfl)⟩, by rw [ht]; exact hP9, va_K.moved hW.alike hK, hD9⟩, hS.F ht⟩) hS.2.2 dX11_readCampLine_13

theorem gX11_readLine_X11_readCampLine : GoodIn kG (wsV RX11 241 RX11 yX11_readCampLine kwX11_readCampLine) := gK w19_3 (gK w19_4 (gK w19_5 (gK w0_5 (gK w19_6 gGG))))
theorem dX11_readLine_9 : decode cX11_readLine 9 = .ok (.bipush 14, 2) := by decide +kernel
theorem dX11_readLine_11 : decode cX11_readLine 11 = .ok (.goto 5, 3) := by decide +kernel
theorem dX11_readLine_23 : decode cX11_readLine 23 = .ok (.aload_n 0, 1) := by decide +kernel
theorem dX11_readLine_24 : decode cX11_readLine 24 = .ok (.invokevirtual 241, 3) := by decide +kernel
theorem dX11_readLine_27 : decode cX11_readLine 27 = .ok (.ifCond .eq 18, 3) := by decide +kernel
theorem dX11_readLine_30 : decode cX11_readLine 30 = .ok (.goto 11, 3) := by decide +kernel
set_option maxHeartbeats 4000000 in
set_option maxRecDepth 100000 in
/-- reference: readLine -/
theorem r_readLine1 (l : Launch) (D : va_G) (cI cJ cB cC : ClassId) (h : Nat) (th : Int32) (aw : Nat) (ai : Nat) (ab : Nat) (ac : Nat) (hi : Int32) (re : Int32) (aP : Nat) (ta : Int32) (po : Int32) (en : Int32) (be : Int32) (de : Int32) (fa : Int32) (a5 : Nat) (sp : Int32) (av : Nat) (an : Nat) (ak : Nat) (ne : Int32) (aW : Nat) (aC : Nat) (ag : Nat) (aT : Nat) (aN : Nat) (aF : Nat) (fw : Nat → Int32) (ft : Nat → Int32) (n : Int32) (sz : Nat) (H_po : Rg po 0 400) (H_en : Rg en 0 400) (H_n : Rg n 0 65535) (H_fw_W : wW fw) (H_fw_B : wB fw) (H_fw_L : wL fw) : Met l yX11_readLine kwX11_readLine ({ frames := 8, cells := 0, slots := 0, locals := 178 } : Room) (kPre D (kT cI cJ cB cC) sz [(h, oX11 th aw ai ab ac hi re aP ta po en be de fa a5 sp av an ak ne aW aC ag aT aN aF), (aw, kcI cI 2179 fw), (aP, .inl (cB, 400, .inl ft))] [.ref h, .int 1, .int n]) (va_Qi (fun (r : Int32) (uu : Int32 × Int32 × (Nat → Int32)) => match uu with | (n0_, n1_, f2_) => Rg n0_ 0 400 ∧ wB f2_ ∧ wL f2_ ∧ wW f2_ ∧ F_r_readLine1 (po : Int32).toInt (en : Int32).toInt (gT fw) (gT ft) (n : Int32).toInt = ((r : Int32).toInt, (n0_ : Int32).toInt, (n1_ : Int32).toInt, (gT f2_)) ∧ ((r = 0) ∨ (r = 1 ∧ Rg n 0 13))) (fun (uu : Int32 × Int32 × (Nat → Int32)) (t : State) => match uu with | (n0_, n1_, f2_) => kB D (kT cI cJ cB cC) (va_A [(h, oX11 th aw ai ab ac hi re aP ta po en be de fa a5 sp av an ak ne aW aC ag aT aN aF), (aw, kcI cI 2179 fw), (aP, .inl (cB, 400, .inl ft))] sz) [(h, oX11 th aw ai ab ac hi re aP ta n0_ en n1_ de fa a5 sp av an ak ne aW aC ag aT aN aF), (aw, kcI cI 2179 f2_), (aP, .inl (cB, 400, .inl ft))] t) (va_A [(h, oX11 th aw ai ab ac hi re aP ta po en be de fa a5 sp av an ak ne aW aC ag aT aN aF), (aw, kcI cI 2179 fw), (aP, .inl (cB, 400, .inl ft))] sz)) 0 0 (va_A [(h, oX11 th aw ai ab ac hi re aP ta po en be de fa a5 sp av an ak ne aW aC ag aT aN aF), (aw, kcI cI 2179 fw), (aP, .inl (cB, 400, .inl ft))] sz) := by
  refine Met.ofW (cc := cX11_readLine) (maxL := 3) (ret := (some .boolean)) (by decide) rfl ?_
  intro p e s m args below meth c s₁ B hml hv
  obtain ⟨rfl, hsz, hN, hE, hP, hK, hD0⟩ := hv
  have hx := B.exec
  have hb := B.bytes
  have hr := B.returns
  have hts := fun (w : Cond) (h : w ∈ kG) => atoms_spec (ws := kwX11_readLine) B.pre w (List.mem_cons_of_mem _ h)
  have hown : s.vm.findClass RX11 = some m.cls := findClass_of_methodNamed B.named
  subst hsz
  have hD := hD0.self (sz := s.heap.size)
  generalize hAe : va_A [(h, oX11 th aw ai ab ac hi re aP ta po en be de fa a5 sp av an ak ne aW aC ag aT aN aF), (aw, kcI cI 2179 fw), (aP, .inl (cB, 400, .inl ft))] s.heap.size = A at hD hE ⊢
  have hA : ∀ q : Nat, s.heap.size ≤ q → A q := fun q h => by rw [← hAe]; exact Or.inr h
  have hl := lv_entry ([.ref h, .int 1, .int n]) (n := 3) (Nat.le_of_ble_eq_true rfl)
  rw [lg_entry_eq]
  generalize (lg_sl ([.ref h, .int 1, .int n]) ++ List.replicate (3 - (lg_sl ([.ref h, .int 1, .int n])).length) Slot.unset).toArray = ls at hl ⊢
  have hl : lv_has ls 3 [(0, .ref h), (1, .int 1), (2, .int n)] := hl
  obtain ⟨H, hH0⟩ : ∃ H, H = s.heap := ⟨_, rfl⟩
  have hS : va_S A s.heap H [] := by rw [hH0]; exact va_S.rf
  have hP : va_P D vwCl [(h, oX11 th aw ai ab ac hi re aP ta po en be de fa a5 sp av an ak ne aW aC ag aT aN aF), (aw, kcI cI 2179 fw), (aP, .inl (cB, 400, .inl ft))] H := by rw [hH0]; exact hP
  refine kHeap hH0 ?_
  clear hH0
  refine lv_aload_n hx hb dX11_readLine_0 rfl (lv_at hl 0 rfl) ?_
  refine kcallv (wc := [(h, oX11 th aw ai ab ac hi re aP ta po en be de fa a5 sp av an ak ne aW aC ag aT aN aF), (aP, .inl (cB, 400, .inl ft))]) (wr := [(aw, kcI cI 2179 fw)]) hP hD hS hA [0, 2] [1] rfl rfl (by decide) (by decide) (by decide) (fun hPc hDc hFc => va_runV (As := []) (rest := []) ⟨hx, hb, hml, hown, hts⟩ (r_letters l D cI cJ cB cC h th aw ai ab ac hi re aP ta po en be de fa a5 sp av an ak ne aW aC ag aT aN aF ft H.size H_po H_en) (cwV 0 hts gX11_readLine_X11_letters rfl rfl rfl ⟨rfl, hdX11_letters⟩ ⟨Nat.le_of_ble_eq_true rfl, Nat.le_of_ble_eq_true rfl⟩) ⟨kBlind, va_recv hK hPc (ci := 10) (q0 := 0) rfl rfl, fun U hU hW => ⟨rfl, by rw [hU], hN.warm hW, hE.pass hS hFc hW hU, by rw [hU]; exact hPc, va_K.moved hW.alike hK, hDc⟩⟩ rfl rfl hl.1 rfl (lv_room (Nat.le_of_ble_eq_true rfl)) dX11_readLine_1 ⟨Nat.le_of_ble_eq_true rfl, Nat.le_of_ble_eq_true rfl⟩) (fun u H locs hw hP hD hS => ?_)
  obtain ⟨x1, x2⟩ := u
  have hP : va_P D vwCl [(aw, kcI cI 2179 fw), (h, oX11 th aw ai ab ac hi re aP ta x1 en x2 de fa a5 sp av an ak ne aW aC ag aT aN aF), (aP, .inl (cB, 400, .inl ft))] H := hP
  have hD : va_D A [(aw, kcI cI 2179 fw), (h, oX11 th aw ai ab ac hi re aP ta x1 en x2 de fa a5 sp av an ak ne aW aC ag aT aN aF), (aP, .inl (cB, 400, .inl ft))] := hD
  obtain ⟨k3, k4, k5, k6, k7⟩ := hw
  refine lv_iload_n hx hb dX11_readLine_4 rfl (lv_at hl 2 rfl) ?_
  refine lv_iload_n hx hb dX11_readLine_5 rfl (lv_at hl 1 rfl) ?_
  refine lv_if_eq (tgt := 14) hx hb dX11_readLine_6 (by decide) (fun c9 => absurd c9 (by decide)) (fun _ => ?_)
  refine lv_bipush (v := 14) hx hb dX11_readLine_9 (by decide) ?_
  refine lv_goto (tgt := 16) hx hb dX11_readLine_11 (by decide) ?_
  refine k_join (hd := 45) (cells2 := 0) (slots2 := 0) (fun (u : (Nat → Int32) × Int32 × Int32) => match u with | (g29, y30, y31) => []) (fun (u : (Nat → Int32) × Int32 × Int32) (H : Heap) (locs : List Loc) (ls : Array Slot) => match u with | (g29, y30, y31) => (F_r_readLine1 po.toInt en.toInt (gT fw) (gT ft) n.toInt = F_r_readLine1_j1 (gT g29) y30.toInt y31.toInt) ∧ wB g29 ∧ wL g29 ∧ wW g29 ∧ Rg y30 0 400 ∧ va_P D vwCl [(aw, kcI cI 2179 g29), (h, oX11 th aw ai ab ac hi re aP ta y30 en y31 de fa a5 sp av an ak ne aW aC ag aT aN aF), (aP, .inl (cB, 400, .inl ft))] H ∧ va_D A [(aw, kcI cI 2179 g29), (h, oX11 th aw ai ab ac hi re aP ta y30 en y31 de fa a5 sp av an ak ne aW aC ag aT aN aF), (aP, .inl (cB, 400, .inl ft))] ∧ va_S A s.heap H locs ∧ lv_has ls 3 [(0, .ref h), (1, .int 1), (2, .int n)]) (fun u H locs ls hI => ?_) (fun hJ45 => ?_)
  · skip
    clear hP hD hS hl
    obtain ⟨g29, y30, y31⟩ := u
    obtain ⟨hF1, hg29_0, hg29_1, hg29_2, hy30, hP, hD, hS, hl⟩ := hI
    have hP : va_P D vwCl [(aw, kcI cI 2179 g29), (h, oX11 th aw ai ab ac hi re aP ta y30 en y31 de fa a5 sp av an ak ne aW aC ag aT aN aF), (aP, .inl (cB, 400, .inl ft))] H := hP
    have hD : va_D A [(aw, kcI cI 2179 g29), (h, oX11 th aw ai ab ac hi re aP ta y30 en y31 de fa a5 sp av an ak ne aW aC ag aT aN aF), (aP, .inl (cB, 400, .inl ft))] := hD
    have hl : lv_has ls 3 [(0, .ref h), (1, .int 1), (2, .int n)] := hl
    refine lv_iconst (v := 0) hx hb dX11_readLine_45 (by decide) ?_
    have hP9 := hP.sub (ws' := [(h, oX11 th aw ai ab ac hi re aP ta y30 en y31 de fa a5 sp av an ak ne aW aC ag aT aN aF), (aw, kcI cI 2179 g29), (aP, .inl (cB, 400, .inl ft))]) [1, 0, 2] rfl
    have hD9 := hD.sub (ws' := [(h, oX11 th aw ai ab ac hi re aP ta y30 en y31 de fa a5 sp av an ak ne aW aC ag aT aN aF), (aw, kcI cI 2179 g29), (aP, .inl (cB, 400, .inl ft))]) [1, 0, 2] (by decide) rfl
    exact W.zret (v := 0) hx hb hr (by decide) (fun t ht hW => ⟨⟨0, (y30, y31, g29), rfl, ⟨hy30, hg29_0, hg29_1, hg29_2, (hF1.trans rfl), (Or.inl rfl)⟩, by rw [ht]; exact hP9, va_K.moved hW.alike hK, hD9⟩, hS.F ht⟩) hS.2.2 dX11_readLine_46
  refine lv_icmp_ge (tgt := 45) hx hb dX11_readLine_16 (by decide) (fun c32 => ?_) (fun c32 => ?_)
  · skip
    have k33 : Rg n 14 65535 := rg_e2 (leI c32) (rg_lit (n := 14) (by decide)) H_n (by decide)
    exact hJ45 (fw, x1, x2) _ _ _ ⟨(kC_eq k7 (kif_t (leI c32) rfl)), H_fw_B, H_fw_L, H_fw_W, k3, hP.sub (ws' := [(aw, kcI cI 2179 fw), (h, oX11 th aw ai ab ac hi re aP ta x1 en x2 de fa a5 sp av an ak ne aW aC ag aT aN aF), (aP, .inl (cB, 400, .inl ft))]) [0, 1, 2] rfl, hD.sub (ws' := [(aw, kcI cI 2179 fw), (h, oX11 th aw ai ab ac hi re aP ta x1 en x2 de fa a5 sp av an ak ne aW aC ag aT aN aF), (aP, .inl (cB, 400, .inl ft))]) [0, 1, 2] (by decide) rfl, hS, lv_sub (l' := [(0, .ref h), (1, .int 1), (2, .int n)]) hl [0, 1, 2] rfl⟩
  · skip
    have k34 : Rg n 0 13 := rg_l1 (nleI c32) H_n (rg_lit (n := 14) (by decide)) (by decide)
    refine lv_iload_n hx hb dX11_readLine_19 rfl (lv_at hl 1 rfl) ?_
    refine lv_if_eq (tgt := 33) hx hb dX11_readLine_20 (by decide) (fun c48 => absurd c48 (by decide)) (fun _ => ?_)
    refine lv_aload_n hx hb dX11_readLine_23 rfl (lv_at hl 0 rfl) ?_
    refine kcalli (wc := [(h, oX11 th aw ai ab ac hi re aP ta x1 en x2 de fa a5 sp av an ak ne aW aC ag aT aN aF), (aw, kcI cI 2179 fw), (aP, .inl (cB, 400, .inl ft))]) (wr := []) hP hD hS hA [1, 0, 2] [] rfl rfl (by decide) (by decide) (by decide) (fun hPc hDc hFc => va_runV (As := []) (rest := []) ⟨hx, hb, hml, hown, hts⟩ (r_readCampLine l D cI cJ cB cC h th aw ai ab ac hi re aP ta x1 en x2 de fa a5 sp av an ak ne aW aC ag aT aN aF fw ft H.size k3 H_en k4 H_fw_W H_fw_B H_fw_L) (cwV 0 hts gX11_readLine_X11_readCampLine rfl rfl rfl ⟨rfl, hdX11_readCampLine⟩ ⟨Nat.le_of_ble_eq_true rfl, Nat.le_of_ble_eq_true rfl⟩) ⟨kBlind, va_recv hK hPc (ci := 10) (q0 := 0) rfl rfl, fun U hU hW => ⟨rfl, by rw [hU], hN.warm hW, hE.pass hS hFc hW hU, by rw [hU]; exact hPc, va_K.moved hW.alike hK, hDc⟩⟩ rfl rfl hl.1 rfl (lv_room (Nat.le_of_ble_eq_true rfl)) dX11_readLine_24 ⟨Nat.le_of_ble_eq_true rfl, Nat.le_of_ble_eq_true rfl⟩) (fun r49 u H locs hw hP hD hS => ?_)
    obtain ⟨x50, x51, g52⟩ := u
    have hP : va_P D vwCl [(h, oX11 th aw ai ab ac hi re aP ta x50 en x51 de fa a5 sp av an ak ne aW aC ag aT aN aF), (aw, kcI cI 2179 g52), (aP, .inl (cB, 400, .inl ft))] H := hP
    have hD : va_D A [(h, oX11 th aw ai ab ac hi re aP ta x50 en x51 de fa a5 sp av an ak ne aW aC ag aT aN aF), (aw, kcI cI 2179 g52), (aP, .inl (cB, 400, .inl ft))] := hD
    obtain ⟨k53, k54, k55, k56, k57, hw⟩ := hw
    rcases hw with rfl | rfl
    · skip
      refine lv_if_eq (tgt := 45) hx hb dX11_readLine_27 (by decide) (fun _ => ?_) (fun c59 => absurd (by decide) c59)
      exact hJ45 (g52, x50, x51) _ _ _ ⟨(kC_eq k7 (kif_f (xF_le c32) (kC_eq k57 (kC_eq rfl (kC_eq rfl (kif_t rfl rfl)))))), k54, k55, k56, k53, hP.sub (ws' := [(aw, kcI cI 2179 g52), (h, oX11 th aw ai ab ac hi re aP ta x50 en x51 de fa a5 sp av an ak ne aW aC ag aT aN aF), (aP, .inl (cB, 400, .inl ft))]) [1, 0, 2] rfl, hD.sub (ws' := [(aw, kcI cI 2179 g52), (h, oX11 th aw ai ab ac hi re aP ta x50 en x51 de fa a5 sp av an ak ne aW aC ag aT aN aF), (aP, .inl (cB, 400, .inl ft))]) [1, 0, 2] (by decide) rfl, hS, lv_sub (l' := [(0, .ref h), (1, .int 1), (2, .int n)]) hl [0, 1, 2] rfl⟩
    · skip
      refine lv_if_eq (tgt := 45) hx hb dX11_readLine_27 (by decide) (fun c60 => absurd c60 (by decide)) (fun _ => ?_)
      refine lv_goto (tgt := 41) hx hb dX11_readLine_30 (by decide) ?_
      refine lv_iconst (v := 1) hx hb dX11_readLine_41 (by decide) ?_
      refine lv_goto (tgt := 46) hx hb dX11_readLine_42 (by decide) ?_
      have hP9 := hP.sub (ws' := [(h, oX11 th aw ai ab ac hi re aP ta x50 en x51 de fa a5 sp av an ak ne aW aC ag aT aN aF), (aw, kcI cI 2179 g52), (aP, .inl (cB, 400, .inl ft))]) [0, 1, 2] rfl
      have hD9 := hD.sub (ws' := [(h, oX11 th aw ai ab ac hi re aP ta x50 en x51 de fa a5 sp av an ak ne aW aC ag aT aN aF), (aw, kcI cI 2179 g52), (aP, .inl (cB, 400, .inl ft))]) [0, 1, 2] (by decide) rfl
      exact W.zret (v := 1) hx hb hr (by decide) (fun t ht hW => ⟨⟨1, (x50, x51, g52), rfl, ⟨k53, k54, k55, k56, (kC_eq k7 (kif_f (xF_le c32) (kC_eq k57 (kC_eq rfl (kC_eq rfl (kif_f (by decide) rfl)))))), (Or.inr ⟨rfl, k34⟩)⟩, by rw [ht]; exact hP9, va_K.moved hW.alike hK, hD9⟩, hS.F ht⟩) hS.2.2 dX11_readLine_46

