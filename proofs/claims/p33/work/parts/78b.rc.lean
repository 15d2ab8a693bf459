def kwX11_readShirt : List Cond := .code yX11_readShirt cX11_readShirt 6 (some .boolean) :: kG
theorem hdX11_readShirt : yX11_readShirt.cls ≠ "java/lang/invoke/MethodHandle" ∧ yX11_readShirt.cls ≠ "java/lang/invoke/VarHandle" ∧ (parseMethodDescriptor yX11_readShirt.desc).map (fun d => d.parameters.length) = some 0 := by decide +kernel
theorem gX11_readShirt_X11_after : GoodIn kG (wsV RX11 130 RX11 yX11_after kwX11_after) := gK w20_1 (gK w20_2 (gK w20_3 (gK w0_5 (gK w20_4 gGG))))
theorem gX11_readShirt_X11_colour : GoodIn kG (wsV RX11 138 RX11 yX11_colour kwX11_colour) := gK w20_5 (gK w20_6 (gK w20_7 (gK w0_5 (gK w20_8 gGG))))
theorem gX11_readShirt_X11_sets : GoodIn kG (wsV RX11 150 RX11 yX11_sets kwX11_sets) := gK w20_21 (gK w20_22 (gK w20_23 (gK w0_5 (gK w21_0 gGG))))
theorem gX11_readShirt_X11_shirts : GoodIn kG (wsV RX11 79 RX11 yX11_shirts kwX11_shirts) := gK w20_17 (gK w20_18 (gK w20_19 (gK w0_5 (gK w20_20 gGG))))
theorem dX11_readShirt_0 : decode cX11_readShirt 0 = .ok (.aload_n 0, 1) := by decide +kernel
theorem dX11_readShirt_1 : decode cX11_readShirt 1 = .ok (.invokevirtual 79, 3) := by decide +kernel
theorem dX11_readShirt_4 : decode cX11_readShirt 4 = .ok (.istore_n 1, 1) := by decide +kernel
theorem dX11_readShirt_5 : decode cX11_readShirt 5 = .ok (.iload_n 1, 1) := by decide +kernel
theorem dX11_readShirt_6 : decode cX11_readShirt 6 = .ok (.bipush 12, 2) := by decide +kernel
theorem dX11_readShirt_8 : decode cX11_readShirt 8 = .ok (.if_icmp .ne 5, 3) := by decide +kernel
theorem dX11_readShirt_11 : decode cX11_readShirt 11 = .ok (.iconst 0, 1) := by decide +kernel
theorem dX11_readShirt_12 : decode cX11_readShirt 12 = .ok (.ireturn, 1) := by decide +kernel
theorem dX11_readShirt_13 : decode cX11_readShirt 13 = .ok (.aload_n 0, 1) := by decide +kernel
theorem dX11_readShirt_14 : decode cX11_readShirt 14 = .ok (.invokevirtual 138, 3) := by decide +kernel
theorem dX11_readShirt_17 : decode cX11_readShirt 17 = .ok (.istore_n 2, 1) := by decide +kernel
theorem dX11_readShirt_18 : decode cX11_readShirt 18 = .ok (.iload_n 2, 1) := by decide +kernel
theorem dX11_readShirt_19 : decode cX11_readShirt 19 = .ok (.ifCond .ge 7, 3) := by decide +kernel
theorem dX11_readShirt_22 : decode cX11_readShirt 22 = .ok (.iconst (-1), 1) := by decide +kernel
theorem dX11_readShirt_23 : decode cX11_readShirt 23 = .ok (.goto 13, 3) := by decide +kernel
theorem dX11_readShirt_26 : decode cX11_readShirt 26 = .ok (.aload_n 0, 1) := by decide +kernel
theorem dX11_readShirt_27 : decode cX11_readShirt 27 = .ok (.ldc 145, 2) := by decide +kernel
theorem dX11_readShirt_29 : decode cX11_readShirt 29 = .ok (.iconst 0, 1) := by decide +kernel
theorem dX11_readShirt_30 : decode cX11_readShirt 30 = .ok (.sipush 999, 3) := by decide +kernel
theorem dX11_readShirt_33 : decode cX11_readShirt 33 = .ok (.invokevirtual 130, 3) := by decide +kernel
theorem dX11_readShirt_36 : decode cX11_readShirt 36 = .ok (.istore_n 3, 1) := by decide +kernel
theorem dX11_readShirt_37 : decode cX11_readShirt 37 = .ok (.iload_n 3, 1) := by decide +kernel
theorem dX11_readShirt_38 : decode cX11_readShirt 38 = .ok (.ifCond .ge 7, 3) := by decide +kernel
theorem dX11_readShirt_41 : decode cX11_readShirt 41 = .ok (.iconst (-1), 1) := by decide +kernel
theorem dX11_readShirt_42 : decode cX11_readShirt 42 = .ok (.goto 12, 3) := by decide +kernel
theorem dX11_readShirt_45 : decode cX11_readShirt 45 = .ok (.aload_n 0, 1) := by decide +kernel
theorem dX11_readShirt_46 : decode cX11_readShirt 46 = .ok (.ldc 146, 2) := by decide +kernel
theorem dX11_readShirt_48 : decode cX11_readShirt 48 = .ok (.iconst 0, 1) := by decide +kernel
theorem dX11_readShirt_49 : decode cX11_readShirt 49 = .ok (.bipush 99, 2) := by decide +kernel
theorem dX11_readShirt_51 : decode cX11_readShirt 51 = .ok (.invokevirtual 130, 3) := by decide +kernel
theorem dX11_readShirt_54 : decode cX11_readShirt 54 = .ok (.istore 4, 2) := by decide +kernel
theorem dX11_readShirt_56 : decode cX11_readShirt 56 = .ok (.iload 4, 2) := by decide +kernel
theorem dX11_readShirt_58 : decode cX11_readShirt 58 = .ok (.ifCond .ge 7, 3) := by decide +kernel
theorem dX11_readShirt_61 : decode cX11_readShirt 61 = .ok (.iconst (-1), 1) := by decide +kernel
theorem dX11_readShirt_62 : decode cX11_readShirt 62 = .ok (.goto 12, 3) := by decide +kernel
theorem dX11_readShirt_65 : decode cX11_readShirt 65 = .ok (.aload_n 0, 1) := by decide +kernel
theorem dX11_readShirt_66 : decode cX11_readShirt 66 = .ok (.ldc 148, 2) := by decide +kernel
theorem dX11_readShirt_68 : decode cX11_readShirt 68 = .ok (.iconst 0, 1) := by decide +kernel
theorem dX11_readShirt_69 : decode cX11_readShirt 69 = .ok (.bipush 9, 2) := by decide +kernel
theorem dX11_readShirt_71 : decode cX11_readShirt 71 = .ok (.invokevirtual 130, 3) := by decide +kernel
theorem dX11_readShirt_74 : decode cX11_readShirt 74 = .ok (.istore 5, 2) := by decide +kernel
theorem dX11_readShirt_76 : decode cX11_readShirt 76 = .ok (.iload 5, 2) := by decide +kernel
theorem dX11_readShirt_78 : decode cX11_readShirt 78 = .ok (.ifCond .ge 5, 3) := by decide +kernel
theorem dX11_readShirt_81 : decode cX11_readShirt 81 = .ok (.iconst 0, 1) := by decide +kernel
theorem dX11_readShirt_82 : decode cX11_readShirt 82 = .ok (.ireturn, 1) := by decide +kernel
theorem dX11_readShirt_83 : decode cX11_readShirt 83 = .ok (.aload_n 0, 1) := by decide +kernel
theorem dX11_readShirt_84 : decode cX11_readShirt 84 = .ok (.iload_n 1, 1) := by decide +kernel
theorem dX11_readShirt_85 : decode cX11_readShirt 85 = .ok (.iconst 0, 1) := by decide +kernel
theorem dX11_readShirt_86 : decode cX11_readShirt 86 = .ok (.iload_n 2, 1) := by decide +kernel
theorem dX11_readShirt_87 : decode cX11_readShirt 87 = .ok (.invokevirtual 150, 3) := by decide +kernel
theorem dX11_readShirt_90 : decode cX11_readShirt 90 = .ok (.aload_n 0, 1) := by decide +kernel
theorem dX11_readShirt_91 : decode cX11_readShirt 91 = .ok (.iload_n 1, 1) := by decide +kernel
theorem dX11_readShirt_92 : decode cX11_readShirt 92 = .ok (.iconst 1, 1) := by decide +kernel
theorem dX11_readShirt_93 : decode cX11_readShirt 93 = .ok (.iload_n 3, 1) := by decide +kernel
theorem dX11_readShirt_94 : decode cX11_readShirt 94 = .ok (.invokevirtual 150, 3) := by decide +kernel
theorem dX11_readShirt_97 : decode cX11_readShirt 97 = .ok (.aload_n 0, 1) := by decide +kernel
theorem dX11_readShirt_98 : decode cX11_readShirt 98 = .ok (.iload_n 1, 1) := by decide +kernel
theorem dX11_readShirt_99 : decode cX11_readShirt 99 = .ok (.iconst 2, 1) := by decide +kernel
theorem dX11_readShirt_100 : decode cX11_readShirt 100 = .ok (.iload 4, 2) := by decide +kernel
theorem dX11_readShirt_102 : decode cX11_readShirt 102 = .ok (.invokevirtual 150, 3) := by decide +kernel
theorem dX11_readShirt_105 : decode cX11_readShirt 105 = .ok (.aload_n 0, 1) := by decide +kernel
theorem dX11_readShirt_106 : decode cX11_readShirt 106 = .ok (.iload_n 1, 1) := by decide +kernel
theorem dX11_readShirt_107 : decode cX11_readShirt 107 = .ok (.iconst 3, 1) := by decide +kernel
theorem dX11_readShirt_108 : decode cX11_readShirt 108 = .ok (.iload 5, 2) := by decide +kernel
theorem dX11_readShirt_110 : decode cX11_readShirt 110 = .ok (.invokevirtual 150, 3) := by decide +kernel
theorem dX11_readShirt_113 : decode cX11_readShirt 113 = .ok (.aload_n 0, 1) := by decide +kernel
theorem dX11_readShirt_114 : decode cX11_readShirt 114 = .ok (.iload_n 1, 1) := by decide +kernel
theorem dX11_readShirt_115 : decode cX11_readShirt 115 = .ok (.iconst 4, 1) := by decide +kernel
theorem dX11_readShirt_116 : decode cX11_readShirt 116 = .ok (.iload_n 1, 1) := by decide +kernel
theorem dX11_readShirt_117 : decode cX11_readShirt 117 = .ok (.invokevirtual 150, 3) := by decide +kernel
theorem dX11_readShirt_120 : decode cX11_readShirt 120 = .ok (.aload_n 0, 1) := by decide +kernel
theorem dX11_readShirt_121 : decode cX11_readShirt 121 = .ok (.iload_n 1, 1) := by decide +kernel
theorem dX11_readShirt_122 : decode cX11_readShirt 122 = .ok (.iconst 5, 1) := by decide +kernel
theorem dX11_readShirt_123 : decode cX11_readShirt 123 = .ok (.iconst (-1), 1) := by decide +kernel
theorem dX11_readShirt_124 : decode cX11_readShirt 124 = .ok (.invokevirtual 150, 3) := by decide +kernel
theorem dX11_readShirt_127 : decode cX11_readShirt 127 = .ok (.aload_n 0, 1) := by decide +kernel
theorem dX11_readShirt_128 : decode cX11_readShirt 128 = .ok (.iload_n 1, 1) := by decide +kernel
theorem dX11_readShirt_129 : decode cX11_readShirt 129 = .ok (.bipush 6, 2) := by decide +kernel
theorem dX11_readShirt_131 : decode cX11_readShirt 131 = .ok (.iconst (-1), 1) := by decide +kernel
theorem dX11_readShirt_132 : decode cX11_readShirt 132 = .ok (.invokevirtual 150, 3) := by decide +kernel
theorem dX11_readShirt_135 : decode cX11_readShirt 135 = .ok (.aload_n 0, 1) := by decide +kernel
theorem dX11_readShirt_136 : decode cX11_readShirt 136 = .ok (.getfield 13, 3) := by decide +kernel
theorem dX11_readShirt_139 : decode cX11_readShirt 139 = .ok (.iconst 1, 1) := by decide +kernel
theorem dX11_readShirt_140 : decode cX11_readShirt 140 = .ok (.dup2, 1) := by decide +kernel
theorem dX11_readShirt_141 : decode cX11_readShirt 141 = .ok (.iaload, 1) := by decide +kernel
theorem dX11_readShirt_142 : decode cX11_readShirt 142 = .ok (.iconst 1, 1) := by decide +kernel
theorem dX11_readShirt_143 : decode cX11_readShirt 143 = .ok (.iadd, 1) := by decide +kernel
theorem dX11_readShirt_144 : decode cX11_readShirt 144 = .ok (.iastore, 1) := by decide +kernel
theorem dX11_readShirt_145 : decode cX11_readShirt 145 = .ok (.iconst 1, 1) := by decide +kernel
theorem dX11_readShirt_146 : decode cX11_readShirt 146 = .ok (.ireturn, 1) := by decide +kernel
set_option maxHeartbeats 4000000 in
set_option maxRecDepth 100000 in
/-- reference: readShirt -/
theorem r_readShirt (l : Launch) (D : va_G) (cI cJ cB cC : ClassId) (h : Nat) (th : Int32) (aw : Nat) (ai : Nat) (ab : Nat) (ac : Nat) (hi : Int32) (re : Int32) (aP : Nat) (ta : Int32) (po : Int32) (en : Int32) (be : Int32) (de : Int32) (fa : Int32) (a5 : Nat) (sp : Int32) (av : Nat) (an : Nat) (ak : Nat) (ne : Int32) (aW : Nat) (aC : Nat) (ag : Nat) (aT : Nat) (aN : Nat) (aF : Nat) (fw : Nat → Int32) (ft : Nat → Int32) (sz : Nat) (H_po : Rg po 0 400) (H_en : Rg en 0 400) (H_fw_W : wW fw) (H_fw_B : wB fw) (H_fw_L : wL fw) : Met l yX11_readShirt kwX11_readShirt ({ frames := 6, cells := 0, slots := 0, locals := 131 } : Room) (kPre D (kT cI cJ cB cC) sz [(h, oX11 th aw ai ab ac hi re aP ta po en be de fa a5 sp av an ak ne aW aC ag aT aN aF), (aw, .inl (cI, 2179, .inl fw)), (aP, .inl (cB, 400, .inl ft))] [.ref h]) (va_Qi (fun (r : Int32) (uu : Int32 × Int32 × (Nat → Int32)) => match uu with | (n0_, n1_, f2_) => Rg n0_ 0 400 ∧ wB f2_ ∧ wL f2_ ∧ wW f2_ ∧ ((r = 0) ∨ (r = 1))) (fun (uu : Int32 × Int32 × (Nat → Int32)) (t : State) => match uu with | (n0_, n1_, f2_) => kB D (kT cI cJ cB cC) (va_A [(h, oX11 th aw ai ab ac hi re aP ta po en be de fa a5 sp av an ak ne aW aC ag aT aN aF), (aw, .inl (cI, 2179, .inl fw)), (aP, .inl (cB, 400, .inl ft))] sz) [(h, oX11 th aw ai ab ac hi re aP ta n0_ en n1_ de fa a5 sp av an ak ne aW aC ag aT aN aF), (aw, .inl (cI, 2179, .inl f2_)), (aP, .inl (cB, 400, .inl ft))] t) (va_A [(h, oX11 th aw ai ab ac hi re aP ta po en be de fa a5 sp av an ak ne aW aC ag aT aN aF), (aw, .inl (cI, 2179, .inl fw)), (aP, .inl (cB, 400, .inl ft))] sz)) 0 0 (va_A [(h, oX11 th aw ai ab ac hi re aP ta po en be de fa a5 sp av an ak ne aW aC ag aT aN aF), (aw, .inl (cI, 2179, .inl fw)), (aP, .inl (cB, 400, .inl ft))] sz) := by
  refine Met.ofW (cc := cX11_readShirt) (maxL := 6) (ret := (some .boolean)) (by decide) rfl ?_
  intro p e s m args below meth c s₁ B hml hv
  obtain ⟨rfl, hsz, hN, hE, hP, hK, hD0⟩ := hv
  have hx := B.exec
  have hb := B.bytes
  have hr := B.returns
  have hts := fun (w : Cond) (h : w ∈ kG) => atoms_spec (ws := kwX11_readShirt) B.pre w (List.mem_cons_of_mem _ h)
  have hown : s.vm.findClass RX11 = some m.cls := findClass_of_methodNamed B.named
  subst hsz
  have hD := hD0.self (sz := s.heap.size)
  generalize hAe : va_A [(h, oX11 th aw ai ab ac hi re aP ta po en be de fa a5 sp av an ak ne aW aC ag aT aN aF), (aw, .inl (cI, 2179, .inl fw)), (aP, .inl (cB, 400, .inl ft))] s.heap.size = A at hD hE ⊢
  have hA : ∀ q : Nat, s.heap.size ≤ q → A q := fun q h => by rw [← hAe]; exact Or.inr h
  have hl := lv_entry ([.ref h]) (n := 6) (Nat.le_of_ble_eq_true rfl)
  rw [lg_entry_eq]
  generalize (lg_sl ([.ref h]) ++ List.replicate (6 - (lg_sl ([.ref h])).length) Slot.unset).toArray = ls at hl ⊢
  have hl : lv_has ls 6 [(0, .ref h)] := hl
  obtain ⟨H, hH0⟩ : ∃ H, H = s.heap := ⟨_, rfl⟩
  have hS : va_S A s.heap H [] := by rw [hH0]; exact va_S.rf
  have hP : va_P D vwCl [(h, oX11 th aw ai ab ac hi re aP ta po en be de fa a5 sp av an ak ne aW aC ag aT aN aF), (aw, .inl (cI, 2179, .inl fw)), (aP, .inl (cB, 400, .inl ft))] H := by rw [hH0]; exact hP
  refine kHeap hH0 ?_
  clear hH0
  refine lv_aload_n hx hb dX11_readShirt_0 rfl (lv_at hl 0 rfl) ?_
  refine kpurei (wc := [(h, oX11 th aw ai ab ac hi re aP ta po en be de fa a5 sp av an ak ne aW aC ag aT aN aF), (aw, .inl (cI, 2179, .inl fw))]) hP hD hS hA [0, 1] rfl (by decide) (fun hPc hDc hFc => va_runV (As := []) (rest := []) ⟨hx, hb, hml, hown, hts⟩ (r_shirts l D cI cJ cB cC h th aw ai ab ac hi re aP ta po en be de fa a5 sp av an ak ne aW aC ag aT aN aF fw H.size H_fw_W) (cwV 0 hts gX11_readShirt_X11_shirts rfl rfl rfl ⟨rfl, hdX11_shirts⟩ ⟨Nat.le_of_ble_eq_true rfl, Nat.le_of_ble_eq_true rfl⟩) ⟨kBlind, va_recv hK hPc (ci := 10) (q0 := 0) rfl rfl, fun U hU hW => ⟨rfl, by rw [hU], hN.warm hW, hE.pass hS hFc hW hU, by rw [hU]; exact hPc, va_K.moved hW.alike hK, hDc⟩⟩ rfl rfl hl.1 rfl (lv_room (Nat.le_of_ble_eq_true rfl)) dX11_readShirt_1 ⟨Nat.le_of_ble_eq_true rfl, Nat.le_of_ble_eq_true rfl⟩) (fun r1 u H locs hw hP hS => ?_)
  obtain ⟨k2, k3⟩ := hw
  refine lv_istore_n (lv' := [(1, .int r1), (0, .ref h)]) hx hb dX11_readShirt_4 rfl hl (by decide) rfl (fun ls hl => ?_)
  refine lv_iload_n hx hb dX11_readShirt_5 rfl (lv_at hl 0 rfl) ?_
  refine lv_bipush (v := 12) hx hb dX11_readShirt_6 (by decide) ?_
  refine lv_icmp_ne (tgt := 13) hx hb dX11_readShirt_8 (by decide) (fun c4 => ?_) (fun c4 => ?_)
  · skip
    have k5 : Rg r1 0 11 := rg_n1 (neI c4) k3 (rg_lit (n := 12) (by decide)) (by decide)
    refine lv_aload_n hx hb dX11_readShirt_13 rfl (lv_at hl 1 rfl) ?_
    refine kcalli (wc := [(h, oX11 th aw ai ab ac hi re aP ta po en be de fa a5 sp av an ak ne aW aC ag aT aN aF), (aP, .inl (cB, 400, .inl ft))]) (wr := [(aw, .inl (cI, 2179, .inl fw))]) hP hD hS hA [0, 2] [1] rfl rfl (by decide) (by decide) (by decide) (fun hPc hDc hFc => va_runV (As := []) (rest := []) ⟨hx, hb, hml, hown, hts⟩ (r_colour l D cI cJ cB cC h th aw ai ab ac hi re aP ta po en be de fa a5 sp av an ak ne aW aC ag aT aN aF ft H.size H_po H_en) (cwV 0 hts gX11_readShirt_X11_colour rfl rfl rfl ⟨rfl, hdX11_colour⟩ ⟨Nat.le_of_ble_eq_true rfl, Nat.le_of_ble_eq_true rfl⟩) ⟨kBlind, va_recv hK hPc (ci := 10) (q0 := 0) rfl rfl, fun U hU hW => ⟨rfl, by rw [hU], hN.warm hW, hE.pass hS hFc hW hU, by rw [hU]; exact hPc, va_K.moved hW.alike hK, hDc⟩⟩ rfl rfl hl.1 rfl (lv_room (Nat.le_of_ble_eq_true rfl)) dX11_readShirt_14 ⟨Nat.le_of_ble_eq_true rfl, Nat.le_of_ble_eq_true rfl⟩) (fun r6 u H locs hw hP hD hS => ?_)
    obtain ⟨x7, x8⟩ := u
    have hP : va_P D vwCl [(aw, .inl (cI, 2179, .inl fw)), (h, oX11 th aw ai ab ac hi re aP ta x7 en x8 de fa a5 sp av an ak ne aW aC ag aT aN aF), (aP, .inl (cB, 400, .inl ft))] H := hP
    have hD : va_D A [(aw, .inl (cI, 2179, .inl fw)), (h, oX11 th aw ai ab ac hi re aP ta x7 en x8 de fa a5 sp av an ak ne aW aC ag aT aN aF), (aP, .inl (cB, 400, .inl ft))] := hD
    obtain ⟨k9, k10, k11⟩ := hw
    refine lv_istore_n (lv' := [(2, .int r6), (1, .int r1), (0, .ref h)]) hx hb dX11_readShirt_17 rfl hl (by decide) rfl (fun ls hl => ?_)
    refine lv_iload_n hx hb dX11_readShirt_18 rfl (lv_at hl 0 rfl) ?_
    refine k_join (hd := 36) (cells2 := 0) (slots2 := 0) (fun (u : Int32 × Int32 × Int32) => match u with | (z28, y29, y30) => [.int z28]) (fun (u : Int32 × Int32 × Int32) (H : Heap) (locs : List Loc) (ls : Array Slot) => match u with | (z28, y29, y30) => Rg z28 (-1) 999 ∧ Rg y29 0 400 ∧ Rg y30 0 400 ∧ va_P D vwCl [(aw, .inl (cI, 2179, .inl fw)), (h, oX11 th aw ai ab ac hi re aP ta y29 en y30 de fa a5 sp av an ak ne aW aC ag aT aN aF), (aP, .inl (cB, 400, .inl ft))] H ∧ va_D A [(aw, .inl (cI, 2179, .inl fw)), (h, oX11 th aw ai ab ac hi re aP ta y29 en y30 de fa a5 sp av an ak ne aW aC ag aT aN aF), (aP, .inl (cB, 400, .inl ft))] ∧ va_S A s.heap H locs ∧ lv_has ls 6 [(2, .int r6), (1, .int r1), (0, .ref h)]) (fun u H locs ls hI => ?_) (fun hJ36 => ?_)
    · skip
      clear hP hD hS hl
      obtain ⟨z28, y29, y30⟩ := u
      obtain ⟨hz28, hy29, hy30, hP, hD, hS, hl⟩ := hI
      have hP : va_P D vwCl [(aw, .inl (cI, 2179, .inl fw)), (h, oX11 th aw ai ab ac hi re aP ta y29 en y30 de fa a5 sp av an ak ne aW aC ag aT aN aF), (aP, .inl (cB, 400, .inl ft))] H := hP
      have hD : va_D A [(aw, .inl (cI, 2179, .inl fw)), (h, oX11 th aw ai ab ac hi re aP ta y29 en y30 de fa a5 sp av an ak ne aW aC ag aT aN aF), (aP, .inl (cB, 400, .inl ft))] := hD
      have hl : lv_has ls 6 [(2, .int r6), (1, .int r1), (0, .ref h)] := hl
      show W _ _ _ _ _ _ _ _ _ _ _ _ _ _ _ (F0 m 36 ls [.int z28])
      refine lv_istore_n (lv' := [(3, .int z28), (2, .int r6), (1, .int r1), (0, .ref h)]) hx hb dX11_readShirt_36 rfl hl (by decide) rfl (fun ls hl => ?_)
      refine lv_iload_n hx hb dX11_readShirt_37 rfl (lv_at hl 0 rfl) ?_
      refine k_join (hd := 54) (cells2 := 0) (slots2 := 0) (fun (u : Int32 × Int32 × Int32) => match u with | (z47, y48, y49) => [.int z47]) (fun (u : Int32 × Int32 × Int32) (H : Heap) (locs : List Loc) (ls : Array Slot) => match u with | (z47, y48, y49) => Rg z47 (-1) 99 ∧ Rg y48 0 400 ∧ Rg y49 0 400 ∧ va_P D vwCl [(aw, .inl (cI, 2179, .inl fw)), (h, oX11 th aw ai ab ac hi re aP ta y48 en y49 de fa a5 sp av an ak ne aW aC ag aT aN aF), (aP, .inl (cB, 400, .inl ft))] H ∧ va_D A [(aw, .inl (cI, 2179, .inl fw)), (h, oX11 th aw ai ab ac hi re aP ta y48 en y49 de fa a5 sp av an ak ne aW aC ag aT aN aF), (aP, .inl (cB, 400, .inl ft))] ∧ va_S A s.heap H locs ∧ lv_has ls 6 [(3, .int z28), (2, .int r6), (1, .int r1), (0, .ref h)]) (fun u H locs ls hI => ?_) (fun hJ54 => ?_)
      · skip
        clear hP hD hS hl
        obtain ⟨z47, y48, y49⟩ := u
        obtain ⟨hz47, hy48, hy49, hP, hD, hS, hl⟩ := hI
        have hP : va_P D vwCl [(aw, .inl (cI, 2179, .inl fw)), (h, oX11 th aw ai ab ac hi re aP ta y48 en y49 de fa a5 sp av an ak ne aW aC ag aT aN aF), (aP, .inl (cB, 400, .inl ft))] H := hP
        have hD : va_D A [(aw, .inl (cI, 2179, .inl fw)), (h, oX11 th aw ai ab ac hi re aP ta y48 en y49 de fa a5 sp av an ak ne aW aC ag aT aN aF), (aP, .inl (cB, 400, .inl ft))] := hD
        have hl : lv_has ls 6 [(3, .int z28), (2, .int r6), (1, .int r1), (0, .ref h)] := hl
        show W _ _ _ _ _ _ _ _ _ _ _ _ _ _ _ (F0 m 54 ls [.int z47])
        refine lv_istore (lv' := [(4, .int z47), (3, .int z28), (2, .int r6), (1, .int r1), (0, .ref h)]) hx hb dX11_readShirt_54 hl (by decide) rfl (fun ls hl => ?_)
        refine lv_iload hx hb dX11_readShirt_56 (lv_at hl 0 rfl) ?_
        refine k_join (hd := 74) (cells2 := 0) (slots2 := 0) (fun (u : Int32 × Int32 × Int32) => match u with | (z66, y67, y68) => [.int z66]) (fun (u : Int32 × Int32 × Int32) (H : Heap) (locs : List Loc) (ls : Array Slot) => match u with | (z66, y67, y68) => Rg z66 (-1) 9 ∧ Rg y67 0 400 ∧ Rg y68 0 400 ∧ va_P D vwCl [(aw, .inl (cI, 2179, .inl fw)), (h, oX11 th aw ai ab ac hi re aP ta y67 en y68 de fa a5 sp av an ak ne aW aC ag aT aN aF), (aP, .inl (cB, 400, .inl ft))] H ∧ va_D A [(aw, .inl (cI, 2179, .inl fw)), (h, oX11 th aw ai ab ac hi re aP ta y67 en y68 de fa a5 sp av an ak ne aW aC ag aT aN aF), (aP, .inl (cB, 400, .inl ft))] ∧ va_S A s.heap H locs ∧ lv_has ls 6 [(4, .int z47), (3, .int z28), (2, .int r6), (1, .int r1), (0, .ref h)]) (fun u H locs ls hI => ?_) (fun hJ74 => ?_)
        · skip
          clear hP hD hS hl
          obtain ⟨z66, y67, y68⟩ := u
          obtain ⟨hz66, hy67, hy68, hP, hD, hS, hl⟩ := hI
          have hP : va_P D vwCl [(aw, .inl (cI, 2179, .inl fw)), (h, oX11 th aw ai ab ac hi re aP ta y67 en y68 de fa a5 sp av an ak ne aW aC ag aT aN aF), (aP, .inl (cB, 400, .inl ft))] H := hP
          have hD : va_D A [(aw, .inl (cI, 2179, .inl fw)), (h, oX11 th aw ai ab ac hi re aP ta y67 en y68 de fa a5 sp av an ak ne aW aC ag aT aN aF), (aP, .inl (cB, 400, .inl ft))] := hD
          have hl : lv_has ls 6 [(4, .int z47), (3, .int z28), (2, .int r6), (1, .int r1), (0, .ref h)] := hl
          show W _ _ _ _ _ _ _ _ _ _ _ _ _ _ _ (F0 m 74 ls [.int z66])
          refine lv_istore (lv' := [(5, .int z66), (4, .int z47), (3, .int z28), (2, .int r6), (1, .int r1), (0, .ref h)]) hx hb dX11_readShirt_74 hl (by decide) rfl (fun ls hl => ?_)
          refine lv_iload hx hb dX11_readShirt_76 (lv_at hl 0 rfl) ?_
          refine lv_if_ge (tgt := 83) hx hb dX11_readShirt_78 (by decide) (fun c69 => ?_) (fun c69 => ?_)
          · skip
            have k70 : Rg z66 0 9 := rg_e2 (leI c69) (rg_lit (n := 0) (by decide)) hz66 (by decide)
            refine lv_aload_n hx hb dX11_readShirt_83 rfl (lv_at hl 5 rfl) ?_
            refine lv_iload_n hx hb dX11_readShirt_84 rfl (lv_at hl 4 rfl) ?_
            refine lv_iconst (v := 0) hx hb dX11_readShirt_85 (by decide) ?_
            refine lv_iload_n hx hb dX11_readShirt_86 rfl (lv_at hl 3 rfl) ?_
            refine kcallv (wc := [(h, oX11 th aw ai ab ac hi re aP ta y67 en y68 de fa a5 sp av an ak ne aW aC ag aT aN aF), (aw, .inl (cI, 2179, .inl fw))]) (wr := [(aP, .inl (cB, 400, .inl ft))]) hP hD hS hA [1, 0] [2] rfl rfl (by decide) (by decide) (by decide) (fun hPc hDc hFc => va_runV (As := [.int r1, .int 0, .int r6]) (rest := []) ⟨hx, hb, hml, hown, hts⟩ (r_sets0x l D cI cJ cB cC h th aw ai ab ac hi re aP ta y67 en y68 de fa a5 sp av an ak ne aW aC ag aT aN aF fw r1 r6 H.size k5) (cwV 3 hts gX11_readShirt_X11_sets rfl rfl rfl ⟨rfl, hdX11_sets⟩ ⟨Nat.le_of_ble_eq_true rfl, Nat.le_of_ble_eq_true rfl⟩) ⟨kBlind, va_recv hK hPc (ci := 10) (q0 := 0) rfl rfl, fun U hU hW => ⟨rfl, by rw [hU], hN.warm hW, hE.pass hS hFc hW hU, by rw [hU]; exact hPc, va_K.moved hW.alike hK, hDc⟩⟩ rfl rfl hl.1 rfl (lv_room (Nat.le_of_ble_eq_true rfl)) dX11_readShirt_87 ⟨Nat.le_of_ble_eq_true rfl, Nat.le_of_ble_eq_true rfl⟩) (fun u H locs hw hP hD hS => ?_)
            have hP : va_P D vwCl [(aP, .inl (cB, 400, .inl ft)), (h, oX11 th aw ai ab ac hi re aP ta y67 en y68 de fa a5 sp av an ak ne aW aC ag aT aN aF), (aw, .inl (cI, 2179, .inl (upd fw (61 + 7 * cN r1) r6)))] H := hP
            have hD : va_D A [(aP, .inl (cB, 400, .inl ft)), (h, oX11 th aw ai ab ac hi re aP ta y67 en y68 de fa a5 sp av an ak ne aW aC ag aT aN aF), (aw, .inl (cI, 2179, .inl (upd fw (61 + 7 * cN r1) r6)))] := hD
            refine lv_aload_n hx hb dX11_readShirt_90 rfl (lv_at hl 5 rfl) ?_
            refine lv_iload_n hx hb dX11_readShirt_91 rfl (lv_at hl 4 rfl) ?_
            refine lv_iconst (v := 1) hx hb dX11_readShirt_92 (by decide) ?_
            refine lv_iload_n hx hb dX11_readShirt_93 rfl (lv_at hl 2 rfl) ?_
            refine kcallv (wc := [(h, oX11 th aw ai ab ac hi re aP ta y67 en y68 de fa a5 sp av an ak ne aW aC ag aT aN aF), (aw, .inl (cI, 2179, .inl (upd fw (61 + 7 * cN r1) r6)))]) (wr := [(aP, .inl (cB, 400, .inl ft))]) hP hD hS hA [1, 2] [0] rfl rfl (by decide) (by decide) (by decide) (fun hPc hDc hFc => va_runV (As := [.int r1, .int 1, .int z28]) (rest := []) ⟨hx, hb, hml, hown, hts⟩ (r_sets1x l D cI cJ cB cC h th aw ai ab ac hi re aP ta y67 en y68 de fa a5 sp av an ak ne aW aC ag aT aN aF (upd fw (61 + 7 * cN r1) r6) r1 z28 H.size k5) (cwV 3 hts gX11_readShirt_X11_sets rfl rfl rfl ⟨rfl, hdX11_sets⟩ ⟨Nat.le_of_ble_eq_true rfl, Nat.le_of_ble_eq_true rfl⟩) ⟨kBlind, va_recv hK hPc (ci := 10) (q0 := 0) rfl rfl, fun U hU hW => ⟨rfl, by rw [hU], hN.warm hW, hE.pass hS hFc hW hU, by rw [hU]; exact hPc, va_K.moved hW.alike hK, hDc⟩⟩ rfl rfl hl.1 rfl (lv_room (Nat.le_of_ble_eq_true rfl)) dX11_readShirt_94 ⟨Nat.le_of_ble_eq_true rfl, Nat.le_of_ble_eq_true rfl⟩) (fun u H locs hw hP hD hS => ?_)
            have hP : va_P D vwCl [(aP, .inl (cB, 400, .inl ft)), (h, oX11 th aw ai ab ac hi re aP ta y67 en y68 de fa a5 sp av an ak ne aW aC ag aT aN aF), (aw, .inl (cI, 2179, .inl (upd (upd fw (61 + 7 * cN r1) r6) (62 + 7 * cN r1) z28)))] H := hP
            have hD : va_D A [(aP, .inl (cB, 400, .inl ft)), (h, oX11 th aw ai ab ac hi re aP ta y67 en y68 de fa a5 sp av an ak ne aW aC ag aT aN aF), (aw, .inl (cI, 2179, .inl (upd (upd fw (61 + 7 * cN r1) r6) (62 + 7 * cN r1) z28)))] := hD
            refine lv_aload_n hx hb dX11_readShirt_97 rfl (lv_at hl 5 rfl) ?_
            refine lv_iload_n hx hb dX11_readShirt_98 rfl (lv_at hl 4 rfl) ?_
            refine lv_iconst (v := 2) hx hb dX11_readShirt_99 (by decide) ?_
            refine lv_iload hx hb dX11_readShirt_100 (lv_at hl 1 rfl) ?_
            refine kcallv (wc := [(h, oX11 th aw ai ab ac hi re aP ta y67 en y68 de fa a5 sp av an ak ne aW aC ag aT aN aF), (aw, .inl (cI, 2179, .inl (upd (upd fw (61 + 7 * cN r1) r6) (62 + 7 * cN r1) z28)))]) (wr := [(aP, .inl (cB, 400, .inl ft))]) hP hD hS hA [1, 2] [0] rfl rfl (by decide) (by decide) (by decide) (fun hPc hDc hFc => va_runV (As := [.int r1, .int 2, .int z47]) (rest := []) ⟨hx, hb, hml, hown, hts⟩ (r_sets2x l D cI cJ cB cC h th aw ai ab ac hi re aP ta y67 en y68 de fa a5 sp av an ak ne aW aC ag aT aN aF (upd (upd fw (61 + 7 * cN r1) r6) (62 + 7 * cN r1) z28) r1 z47 H.size k5) (cwV 3 hts gX11_readShirt_X11_sets rfl rfl rfl ⟨rfl, hdX11_sets⟩ ⟨Nat.le_of_ble_eq_true rfl, Nat.le_of_ble_eq_true rfl⟩) ⟨kBlind, va_recv hK hPc (ci := 10) (q0 := 0) rfl rfl, fun U hU hW => ⟨rfl, by rw [hU], hN.warm hW, hE.pass hS hFc hW hU, by rw [hU]; exact hPc, va_K.moved hW.alike hK, hDc⟩⟩ rfl rfl hl.1 rfl (lv_room (Nat.le_of_ble_eq_true rfl)) dX11_readShirt_102 ⟨Nat.le_of_ble_eq_true rfl, Nat.le_of_ble_eq_true rfl⟩) (fun u H locs hw hP hD hS => ?_)
            have hP : va_P D vwCl [(aP, .inl (cB, 400, .inl ft)), (h, oX11 th aw ai ab ac hi re aP ta y67 en y68 de fa a5 sp av an ak ne aW aC ag aT aN aF), (aw, .inl (cI, 2179, .inl (upd (upd (upd fw (61 + 7 * cN r1) r6) (62 + 7 * cN r1) z28) (63 + 7 * cN r1) z47)))] H := hP
            have hD : va_D A [(aP, .inl (cB, 400, .inl ft)), (h, oX11 th aw ai ab ac hi re aP ta y67 en y68 de fa a5 sp av an ak ne aW aC ag aT aN aF), (aw, .inl (cI, 2179, .inl (upd (upd (upd fw (61 + 7 * cN r1) r6) (62 + 7 * cN r1) z28) (63 + 7 * cN r1) z47)))] := hD
            refine lv_aload_n hx hb dX11_readShirt_105 rfl (lv_at hl 5 rfl) ?_
            refine lv_iload_n hx hb dX11_readShirt_106 rfl (lv_at hl 4 rfl) ?_
            refine lv_iconst (v := 3) hx hb dX11_readShirt_107 (by decide) ?_
            refine lv_iload hx hb dX11_readShirt_108 (lv_at hl 0 rfl) ?_
            refine kcallv (wc := [(h, oX11 th aw ai ab ac hi re aP ta y67 en y68 de fa a5 sp av an ak ne aW aC ag aT aN aF), (aw, .inl (cI, 2179, .inl (upd (upd (upd fw (61 + 7 * cN r1) r6) (62 + 7 * cN r1) z28) (63 + 7 * cN r1) z47)))]) (wr := [(aP, .inl (cB, 400, .inl ft))]) hP hD hS hA [1, 2] [0] rfl rfl (by decide) (by decide) (by decide) (fun hPc hDc hFc => va_runV (As := [.int r1, .int 3, .int z66]) (rest := []) ⟨hx, hb, hml, hown, hts⟩ (r_sets3x l D cI cJ cB cC h th aw ai ab ac hi re aP ta y67 en y68 de fa a5 sp av an ak ne aW aC ag aT aN aF (upd (upd (upd fw (61 + 7 * cN r1) r6) (62 + 7 * cN r1) z28) (63 + 7 * cN r1) z47) r1 z66 H.size k5) (cwV 3 hts gX11_readShirt_X11_sets rfl rfl rfl ⟨rfl, hdX11_sets⟩ ⟨Nat.le_of_ble_eq_true rfl, Nat.le_of_ble_eq_true rfl⟩) ⟨kBlind, va_recv hK hPc (ci := 10) (q0 := 0) rfl rfl, fun U hU hW => ⟨rfl, by rw [hU], hN.warm hW, hE.pass hS hFc hW hU, by rw [hU]; exact hPc, va_K.moved hW.alike hK, hDc⟩⟩ rfl rfl hl.1 rfl (lv_room (Nat.le_of_ble_eq_true rfl)) dX11_readShirt_110 ⟨Nat.le_of_ble_eq_true rfl, Nat.le_of_ble_eq_true rfl⟩) (fun u H locs hw hP hD hS => ?_)
            have hP : va_P D vwCl [(aP, .inl (cB, 400, .inl ft)), (h, oX11 th aw ai ab ac hi re aP ta y67 en y68 de fa a5 sp av an ak ne aW aC ag aT aN aF), (aw, .inl (cI, 2179, .inl (upd (upd (upd (upd fw (61 + 7 * cN r1) r6) (62 + 7 * cN r1) z28) (63 + 7 * cN r1) z47) (64 + 7 * cN r1) z66)))] H := hP
            have hD : va_D A [(aP, .inl (cB, 400, .inl ft)), (h, oX11 th aw ai ab ac hi re aP ta y67 en y68 de fa a5 sp av an ak ne aW aC ag aT aN aF), (aw, .inl (cI, 2179, .inl (upd (upd (upd (upd fw (61 + 7 * cN r1) r6) (62 + 7 * cN r1) z28) (63 + 7 * cN r1) z47) (64 + 7 * cN r1) z66)))] := hD
            refine lv_aload_n hx hb dX11_readShirt_113 rfl (lv_at hl 5 rfl) ?_
            refine lv_iload_n hx hb dX11_readShirt_114 rfl (lv_at hl 4 rfl) ?_
            refine lv_iconst (v := 4) hx hb dX11_readShirt_115 (by decide) ?_
            refine lv_iload_n hx hb dX11_readShirt_116 rfl (lv_at hl 4 rfl) ?_
            refine kcallv (wc := [(h, oX11 th aw ai ab ac hi re aP ta y67 en y68 de fa a5 sp av an ak ne aW aC ag aT aN aF), (aw, .inl (cI, 2179, .inl (upd (upd (upd (upd fw (61 + 7 * cN r1) r6) (62 + 7 * cN r1) z28) (63 + 7 * cN r1) z47) (64 + 7 * cN r1) z66)))]) (wr := [(aP, .inl (cB, 400, .inl ft))]) hP hD hS hA [1, 2] [0] rfl rfl (by decide) (by decide) (by decide) (fun hPc hDc hFc => va_runV (As := [.int r1, .int 4, .int r1]) (rest := []) ⟨hx, hb, hml, hown, hts⟩ (r_sets4x l D cI cJ cB cC h th aw ai ab ac hi re aP ta y67 en y68 de fa a5 sp av an ak ne aW aC ag aT aN aF (upd (upd (upd (upd fw (61 + 7 * cN r1) r6) (62 + 7 * cN r1) z28) (63 + 7 * cN r1) z47) (64 + 7 * cN r1) z66) r1 r1 H.size k5) (cwV 3 hts gX11_readShirt_X11_sets rfl rfl rfl ⟨rfl, hdX11_sets⟩ ⟨Nat.le_of_ble_eq_true rfl, Nat.le_of_ble_eq_true rfl⟩) ⟨kBlind, va_recv hK hPc (ci := 10) (q0 := 0) rfl rfl, fun U hU hW => ⟨rfl, by rw [hU], hN.warm hW, hE.pass hS hFc hW hU, by rw [hU]; exact hPc, va_K.moved hW.alike hK, hDc⟩⟩ rfl rfl hl.1 rfl (lv_room (Nat.le_of_ble_eq_true rfl)) dX11_readShirt_117 ⟨Nat.le_of_ble_eq_true rfl, Nat.le_of_ble_eq_true rfl⟩) (fun u H locs hw hP hD hS => ?_)
            have hP : va_P D vwCl [(aP, .inl (cB, 400, .inl ft)), (h, oX11 th aw ai ab ac hi re aP ta y67 en y68 de fa a5 sp av an ak ne aW aC ag aT aN aF), (aw, .inl (cI, 2179, .inl (upd (upd (upd (upd (upd fw (61 + 7 * cN r1) r6) (62 + 7 * cN r1) z28) (63 + 7 * cN r1) z47) (64 + 7 * cN r1) z66) (65 + 7 * cN r1) r1)))] H := hP
            have hD : va_D A [(aP, .inl (cB, 400, .inl ft)), (h, oX11 th aw ai ab ac hi re aP ta y67 en y68 de fa a5 sp av an ak ne aW aC ag aT aN aF), (aw, .inl (cI, 2179, .inl (upd (upd (upd (upd (upd fw (61 + 7 * cN r1) r6) (62 + 7 * cN r1) z28) (63 + 7 * cN r1) z47) (64 + 7 * cN r1) z66) (65 + 7 * cN r1) r1)))] := hD
            refine lv_aload_n hx hb dX11_readShirt_120 rfl (lv_at hl 5 rfl) ?_
            refine lv_iload_n hx hb dX11_readShirt_121 rfl (lv_at hl 4 rfl) ?_
            refine lv_iconst (v := 5) hx hb dX11_readShirt_122 (by decide) ?_
            refine lv_iconst (v := (-1)) hx hb dX11_readShirt_123 (by decide) ?_
            refine kcallv (wc := [(h, oX11 th aw ai ab ac hi re aP ta y67 en y68 de fa a5 sp av an ak ne aW aC ag aT aN aF), (aw, .inl (cI, 2179, .inl (upd (upd (upd (upd (upd fw (61 + 7 * cN r1) r6) (62 + 7 * cN r1) z28) (63 + 7 * cN r1) z47) (64 + 7 * cN r1) z66) (65 + 7 * cN r1) r1)))]) (wr := [(aP, .inl (cB, 400, .inl ft))]) hP hD hS hA [1, 2] [0] rfl rfl (by decide) (by decide) (by decide) (fun hPc hDc hFc => va_runV (As := [.int r1, .int 5, .int (-1)]) (rest := []) ⟨hx, hb, hml, hown, hts⟩ (r_sets5x l D cI cJ cB cC h th aw ai ab ac hi re aP ta y67 en y68 de fa a5 sp av an ak ne aW aC ag aT aN aF (upd (upd (upd (upd (upd fw (61 + 7 * cN r1) r6) (62 + 7 * cN r1) z28) (63 + 7 * cN r1) z47) (64 + 7 * cN r1) z66) (65 + 7 * cN r1) r1) r1 (-1) H.size k5) (cwV 3 hts gX11_readShirt_X11_sets rfl rfl rfl ⟨rfl, hdX11_sets⟩ ⟨Nat.le_of_ble_eq_true rfl, Nat.le_of_ble_eq_true rfl⟩) ⟨kBlind, va_recv hK hPc (ci := 10) (q0 := 0) rfl rfl, fun U hU hW => ⟨rfl, by rw [hU], hN.warm hW, hE.pass hS hFc hW hU, by rw [hU]; exact hPc, va_K.moved hW.alike hK, hDc⟩⟩ rfl rfl hl.1 rfl (lv_room (Nat.le_of_ble_eq_true rfl)) dX11_readShirt_124 ⟨Nat.le_of_ble_eq_true rfl, Nat.le_of_ble_eq_true rfl⟩) (fun u H locs hw hP hD hS => ?_)
            have hP : va_P D vwCl [(aP, .inl (cB, 400, .inl ft)), (h, oX11 th aw ai ab ac hi re aP ta y67 en y68 de fa a5 sp av an ak ne aW aC ag aT aN aF), (aw, .inl (cI, 2179, .inl (upd (upd (upd (upd (upd (upd fw (61 + 7 * cN r1) r6) (62 + 7 * cN r1) z28) (63 + 7 * cN r1) z47) (64 + 7 * cN r1) z66) (65 + 7 * cN r1) r1) (66 + 7 * cN r1) (-1))))] H := hP
            have hD : va_D A [(aP, .inl (cB, 400, .inl ft)), (h, oX11 th aw ai ab ac hi re aP ta y67 en y68 de fa a5 sp av an ak ne aW aC ag aT aN aF), (aw, .inl (cI, 2179, .inl (upd (upd (upd (upd (upd (upd fw (61 + 7 * cN r1) r6) (62 + 7 * cN r1) z28) (63 + 7 * cN r1) z47) (64 + 7 * cN r1) z66) (65 + 7 * cN r1) r1) (66 + 7 * cN r1) (-1))))] := hD
            refine lv_aload_n hx hb dX11_readShirt_127 rfl (lv_at hl 5 rfl) ?_
            refine lv_iload_n hx hb dX11_readShirt_128 rfl (lv_at hl 4 rfl) ?_
            refine lv_bipush (v := 6) hx hb dX11_readShirt_129 (by decide) ?_
            refine lv_iconst (v := (-1)) hx hb dX11_readShirt_131 (by decide) ?_
            refine kcallv (wc := [(h, oX11 th aw ai ab ac hi re aP ta y67 en y68 de fa a5 sp av an ak ne aW aC ag aT aN aF), (aw, .inl (cI, 2179, .inl (upd (upd (upd (upd (upd (upd fw (61 + 7 * cN r1) r6) (62 + 7 * cN r1) z28) (63 + 7 * cN r1) z47) (64 + 7 * cN r1) z66) (65 + 7 * cN r1) r1) (66 + 7 * cN r1) (-1))))]) (wr := [(aP, .inl (cB, 400, .inl ft))]) hP hD hS hA [1, 2] [0] rfl rfl (by decide) (by decide) (by decide) (fun hPc hDc hFc => va_runV (As := [.int r1, .int 6, .int (-1)]) (rest := []) ⟨hx, hb, hml, hown, hts⟩ (r_sets6x l D cI cJ cB cC h th aw ai ab ac hi re aP ta y67 en y68 de fa a5 sp av an ak ne aW aC ag aT aN aF (upd (upd (upd (upd (upd (upd fw (61 + 7 * cN r1) r6) (62 + 7 * cN r1) z28) (63 + 7 * cN r1) z47) (64 + 7 * cN r1) z66) (65 + 7 * cN r1) r1) (66 + 7 * cN r1) (-1)) r1 (-1) H.size k5) (cwV 3 hts gX11_readShirt_X11_sets rfl rfl rfl ⟨rfl, hdX11_sets⟩ ⟨Nat.le_of_ble_eq_true rfl, Nat.le_of_ble_eq_true rfl⟩) ⟨kBlind, va_recv hK hPc (ci := 10) (q0 := 0) rfl rfl, fun U hU hW => ⟨rfl, by rw [hU], hN.warm hW, hE.pass hS hFc hW hU, by rw [hU]; exact hPc, va_K.moved hW.alike hK, hDc⟩⟩ rfl rfl hl.1 rfl (lv_room (Nat.le_of_ble_eq_true rfl)) dX11_readShirt_132 ⟨Nat.le_of_ble_eq_true rfl, Nat.le_of_ble_eq_true rfl⟩) (fun u H locs hw hP hD hS => ?_)
            have hP : va_P D vwCl [(aP, .inl (cB, 400, .inl ft)), (h, oX11 th aw ai ab ac hi re aP ta y67 en y68 de fa a5 sp av an ak ne aW aC ag aT aN aF), (aw, .inl (cI, 2179, .inl (upd (upd (upd (upd (upd (upd (upd fw (61 + 7 * cN r1) r6) (62 + 7 * cN r1) z28) (63 + 7 * cN r1) z47) (64 + 7 * cN r1) z66) (65 + 7 * cN r1) r1) (66 + 7 * cN r1) (-1)) (67 + 7 * cN r1) (-1))))] H := hP
            have hD : va_D A [(aP, .inl (cB, 400, .inl ft)), (h, oX11 th aw ai ab ac hi re aP ta y67 en y68 de fa a5 sp av an ak ne aW aC ag aT aN aF), (aw, .inl (cI, 2179, .inl (upd (upd (upd (upd (upd (upd (upd fw (61 + 7 * cN r1) r6) (62 + 7 * cN r1) z28) (63 + 7 * cN r1) z47) (64 + 7 * cN r1) z66) (65 + 7 * cN r1) r1) (66 + 7 * cN r1) (-1)) (67 + 7 * cN r1) (-1))))] := hD
            refine lv_aload_n hx hb dX11_readShirt_135 rfl (lv_at hl 5 rfl) ?_
            refine va_get (D := D) (ci := 10) (v := .ref aw) (C := RX11) (T := TX11) (N := 26) hx hb hts iG_X11 hown hK hP 1 rfl rfl 1 (by decide) (hts _ w5_3) (fun _ h9 => h9) rfl dX11_readShirt_136 ?_
            refine lv_iconst (v := 1) hx hb dX11_readShirt_139 (by decide) ?_
            refine lv_dup2_11 hx hb dX11_readShirt_140 rfl rfl ?_
            refine va_iald hx hb hK hP 2 0 rfl rfl (rg_in (rg_lit (n := 1) (by decide)) (by decide)) dX11_readShirt_141 ?_
            refine lv_topi (fun x71 ex71 => ?_)
            have k72 : Rg x71 0 11 := (by have q1 : x71 = r1 := (by rw [ex71]; exact (shN_out (g := fw) (s := r1) (c0 := r6) (c1 := z28) (c2 := z47) (c3 := z66) (j := 1) (by omega)).trans k2.symm); rw [q1]; exact k5)
            refine lv_iconst (v := 1) hx hb dX11_readShirt_142 (by decide) ?_
            refine lv_iadd hx hb dX11_readShirt_143 ?_
            refine lv_topi (fun x73 ex73 => ?_)
            have tx73 : x73.toInt = x71.toInt + 1 := ti_add ex73 k72 (rg_lit (n := 1) (by decide)) (by decide) rfl (by decide)
            have k74 : Rg x73 1 12 := rg_add ex73 k72 (rg_lit (n := 1) (by decide)) (by decide)
            refine va_iast hx hb hK hP hD hS 2 0 rfl rfl (rg_in (rg_lit (n := 1) (by decide)) (by decide)) dX11_readShirt_144 (fun H locs hP hD hS => ?_)
            have hP : va_P D vwCl [(aP, .inl (cB, 400, .inl ft)), (h, oX11 th aw ai ab ac hi re aP ta y67 en y68 de fa a5 sp av an ak ne aW aC ag aT aN aF), (aw, .inl (cI, 2179, .inl (upd (upd (upd (upd (upd (upd (upd (upd fw (61 + 7 * cN r1) r6) (62 + 7 * cN r1) z28) (63 + 7 * cN r1) z47) (64 + 7 * cN r1) z66) (65 + 7 * cN r1) r1) (66 + 7 * cN r1) (-1)) (67 + 7 * cN r1) (-1)) (1 : Int32).toNatClampNeg x73)))] H := hP
            have hD : va_D A [(aP, .inl (cB, 400, .inl ft)), (h, oX11 th aw ai ab ac hi re aP ta y67 en y68 de fa a5 sp av an ak ne aW aC ag aT aN aF), (aw, .inl (cI, 2179, .inl (upd (upd (upd (upd (upd (upd (upd (upd fw (61 + 7 * cN r1) r6) (62 + 7 * cN r1) z28) (63 + 7 * cN r1) z47) (64 + 7 * cN r1) z66) (65 + 7 * cN r1) r1) (66 + 7 * cN r1) (-1)) (67 + 7 * cN r1) (-1)) (1 : Int32).toNatClampNeg x73)))] := hD
            have k76 := shN_new (c0 := r6) (c1 := z28) (c2 := z47) (c3 := z66) H_fw_W H_fw_B H_fw_L k2 k5 ex71 (ti_add (Y := 1) ex73 k72 (rg_lit (n := 1) (by decide)) (by decide) rfl (by decide))
            have k79 : wW (upd (upd (upd (upd (upd (upd (upd (upd fw (61 + 7 * cN r1) r6) (62 + 7 * cN r1) z28) (63 + 7 * cN r1) z47) (64 + 7 * cN r1) z66) (65 + 7 * cN r1) r1) (66 + 7 * cN r1) (-1)) (67 + 7 * cN r1) (-1)) (1 : Int32).toNatClampNeg x73) := k76.1.1
            have k77 : wB (upd (upd (upd (upd (upd (upd (upd (upd fw (61 + 7 * cN r1) r6) (62 + 7 * cN r1) z28) (63 + 7 * cN r1) z47) (64 + 7 * cN r1) z66) (65 + 7 * cN r1) r1) (66 + 7 * cN r1) (-1)) (67 + 7 * cN r1) (-1)) (1 : Int32).toNatClampNeg x73) := k76.1.2
            have k78 : wL (upd (upd (upd (upd (upd (upd (upd (upd fw (61 + 7 * cN r1) r6) (62 + 7 * cN r1) z28) (63 + 7 * cN r1) z47) (64 + 7 * cN r1) z66) (65 + 7 * cN r1) r1) (66 + 7 * cN r1) (-1)) (67 + 7 * cN r1) (-1)) (1 : Int32).toNatClampNeg x73) := k76.2
            clear k76
            generalize hge : (upd (upd (upd (upd (upd (upd (upd (upd fw (61 + 7 * cN r1) r6) (62 + 7 * cN r1) z28) (63 + 7 * cN r1) z47) (64 + 7 * cN r1) z66) (65 + 7 * cN r1) r1) (66 + 7 * cN r1) (-1)) (67 + 7 * cN r1) (-1)) (1 : Int32).toNatClampNeg x73) = g75 at hP hD k79 k77 k78
            clear hge
            refine lv_iconst (v := 1) hx hb dX11_readShirt_145 (by decide) ?_
            have hP9 := hP.sub (ws' := [(h, oX11 th aw ai ab ac hi re aP ta y67 en y68 de fa a5 sp av an ak ne aW aC ag aT aN aF), (aw, .inl (cI, 2179, .inl g75)), (aP, .inl (cB, 400, .inl ft))]) [1, 2, 0] rfl
            have hD9 := hD.sub (ws' := [(h, oX11 th aw ai ab ac hi re aP ta y67 en y68 de fa a5 sp av an ak ne aW aC ag aT aN aF), (aw, .inl (cI, 2179, .inl g75)), (aP, .inl (cB, 400, .inl ft))]) [1, 2, 0] (by decide) rfl
            exact W.zret (v := 1) hx hb hr (by decide) (fun t ht hW => ⟨⟨1, (y67, y68, g75), rfl, ⟨hy67, k77, k78, k79, (Or.inr rfl)⟩, by rw [ht]; exact hP9, va_K.moved hW.alike hK, hD9⟩, hS.F ht⟩) hS.2.2 dX11_readShirt_146
          · skip
            have k80 : Rg z66 (-1) (-1) := rg_l1 (nleI c69) hz66 (rg_lit (n := 0) (by decide)) (by decide)
            refine lv_iconst (v := 0) hx hb dX11_readShirt_81 (by decide) ?_
            have hP9 := hP.sub (ws' := [(h, oX11 th aw ai ab ac hi re aP ta y67 en y68 de fa a5 sp av an ak ne aW aC ag aT aN aF), (aw, .inl (cI, 2179, .inl fw)), (aP, .inl (cB, 400, .inl ft))]) [1, 0, 2] rfl
            have hD9 := hD.sub (ws' := [(h, oX11 th aw ai ab ac hi re aP ta y67 en y68 de fa a5 sp av an ak ne aW aC ag aT aN aF), (aw, .inl (cI, 2179, .inl fw)), (aP, .inl (cB, 400, .inl ft))]) [1, 0, 2] (by decide) rfl
            exact W.zret (v := 0) hx hb hr (by decide) (fun t ht hW => ⟨⟨0, (y67, y68, fw), rfl, ⟨hy67, H_fw_B, H_fw_L, H_fw_W, (Or.inl rfl)⟩, by rw [ht]; exact hP9, va_K.moved hW.alike hK, hD9⟩, hS.F ht⟩) hS.2.2 dX11_readShirt_82
        refine lv_if_ge (tgt := 65) hx hb dX11_readShirt_58 (by decide) (fun c81 => ?_) (fun c81 => ?_)
        · skip
          have k82 : Rg z47 0 99 := rg_e2 (leI c81) (rg_lit (n := 0) (by decide)) hz47 (by decide)
          refine lv_aload_n hx hb dX11_readShirt_65 rfl (lv_at hl 4 rfl) ?_
          obtain ⟨q83, q84, hR85, hT86⟩ := kTx_11 hE.2.2
          refine va_ldcS hx hb hown hR85 dX11_readShirt_66 ?_
          refine lv_iconst (v := 0) hx hb dX11_readShirt_68 (by decide) ?_
          refine lv_bipush (v := 9) hx hb dX11_readShirt_69 (by decide) ?_
          refine kcalli (wc := [(h, oX11 th aw ai ab ac hi re aP ta y48 en y49 de fa a5 sp av an ak ne aW aC ag aT aN aF), (aP, .inl (cB, 400, .inl ft))]) (wr := [(aw, .inl (cI, 2179, .inl fw))]) hP hD hS hA [1, 2] [0] rfl rfl (by decide) (by decide) (by decide) (fun hPc hDc hFc => va_runV (As := [.ref q83, .int 0, .int 9]) (rest := []) ⟨hx, hb, hml, hown, hts⟩ (r_after_9 l D cI cJ cB cC h th aw ai ab ac hi re aP ta y48 en y49 de fa a5 sp av an ak ne aW aC ag aT aN aF ft q83 kSb11 q84 H.size hy48 H_en kSb11_le) (cwV 3 hts gX11_readShirt_X11_after rfl rfl rfl ⟨rfl, hdX11_after⟩ ⟨Nat.le_of_ble_eq_true rfl, Nat.le_of_ble_eq_true rfl⟩) ⟨kBlindT, va_recv hK hPc (ci := 10) (q0 := 0) rfl rfl, fun U hU hW => ⟨rfl, by rw [hU], hN.warm hW, hE.pass hS hFc hW hU, hT86.pass hS hFc hW hU, by rw [hU]; exact hPc, va_K.moved hW.alike hK, hDc⟩⟩ rfl rfl hl.1 rfl (lv_room (Nat.le_of_ble_eq_true rfl)) dX11_readShirt_71 ⟨Nat.le_of_ble_eq_true rfl, Nat.le_of_ble_eq_true rfl⟩) (fun r87 u H locs hw hP hD hS => ?_)
          obtain ⟨x88, x89⟩ := u
          have hP : va_P D vwCl [(aw, .inl (cI, 2179, .inl fw)), (h, oX11 th aw ai ab ac hi re aP ta x88 en x89 de fa a5 sp av an ak ne aW aC ag aT aN aF), (aP, .inl (cB, 400, .inl ft))] H := hP
          have hD : va_D A [(aw, .inl (cI, 2179, .inl fw)), (h, oX11 th aw ai ab ac hi re aP ta x88 en x89 de fa a5 sp av an ak ne aW aC ag aT aN aF), (aP, .inl (cB, 400, .inl ft))] := hD
          obtain ⟨k90, k91, k92⟩ := hw
          exact hJ74 (r87, x88, x89) _ _ _ ⟨k92, k90, k91, hP.sub (ws' := [(aw, .inl (cI, 2179, .inl fw)), (h, oX11 th aw ai ab ac hi re aP ta x88 en x89 de fa a5 sp av an ak ne aW aC ag aT aN aF), (aP, .inl (cB, 400, .inl ft))]) [0, 1, 2] rfl, hD.sub (ws' := [(aw, .inl (cI, 2179, .inl fw)), (h, oX11 th aw ai ab ac hi re aP ta x88 en x89 de fa a5 sp av an ak ne aW aC ag aT aN aF), (aP, .inl (cB, 400, .inl ft))]) [0, 1, 2] (by decide) rfl, hS, lv_sub (l' := [(4, .int z47), (3, .int z28), (2, .int r6), (1, .int r1), (0, .ref h)]) hl [0, 1, 2, 3, 4] rfl⟩
        · skip
          have k93 : Rg z47 (-1) (-1) := rg_l1 (nleI c81) hz47 (rg_lit (n := 0) (by decide)) (by decide)
          refine lv_iconst (v := (-1)) hx hb dX11_readShirt_61 (by decide) ?_
          refine lv_goto (tgt := 74) hx hb dX11_readShirt_62 (by decide) ?_
          exact hJ74 ((-1 : Int32), y48, y49) _ _ _ ⟨(rg_w (rg_lit (n := -1) (by decide)) (by decide)), hy48, hy49, hP.sub (ws' := [(aw, .inl (cI, 2179, .inl fw)), (h, oX11 th aw ai ab ac hi re aP ta y48 en y49 de fa a5 sp av an ak ne aW aC ag aT aN aF), (aP, .inl (cB, 400, .inl ft))]) [0, 1, 2] rfl, hD.sub (ws' := [(aw, .inl (cI, 2179, .inl fw)), (h, oX11 th aw ai ab ac hi re aP ta y48 en y49 de fa a5 sp av an ak ne aW aC ag aT aN aF), (aP, .inl (cB, 400, .inl ft))]) [0, 1, 2] (by decide) rfl, hS, lv_sub (l' := [(4, .int z47), (3, .int z28), (2, .int r6), (1, .int r1), (0, .ref h)]) hl [0, 1, 2, 3, 4] rfl⟩
      refine lv_if_ge (tgt := 45) hx hb dX11_readShirt_38 (by decide) (fun c94 => ?_) (fun c94 => ?_)
      · skip
        have k95 : Rg z28 0 999 := rg_e2 (leI c94) (rg_lit (n := 0) (by decide)) hz28 (by decide)
        refine lv_aload_n hx hb dX11_readShirt_45 rfl (lv_at hl 3 rfl) ?_
        obtain ⟨q96, q97, hR98, hT99⟩ := kTx_10 hE.2.2
        refine va_ldcS hx hb hown hR98 dX11_readShirt_46 ?_
        refine lv_iconst (v := 0) hx hb dX11_readShirt_48 (by decide) ?_
        refine lv_bipush (v := 99) hx hb dX11_readShirt_49 (by decide) ?_
        refine kcalli (wc := [(h, oX11 th aw ai ab ac hi re aP ta y29 en y30 de fa a5 sp av an ak ne aW aC ag aT aN aF), (aP, .inl (cB, 400, .inl ft))]) (wr := [(aw, .inl (cI, 2179, .inl fw))]) hP hD hS hA [1, 2] [0] rfl rfl (by decide) (by decide) (by decide) (fun hPc hDc hFc => va_runV (As := [.ref q96, .int 0, .int 99]) (rest := []) ⟨hx, hb, hml, hown, hts⟩ (r_after_99 l D cI cJ cB cC h th aw ai ab ac hi re aP ta y29 en y30 de fa a5 sp av an ak ne aW aC ag aT aN aF ft q96 kSb10 q97 H.size hy29 H_en kSb10_le) (cwV 3 hts gX11_readShirt_X11_after rfl rfl rfl ⟨rfl, hdX11_after⟩ ⟨Nat.le_of_ble_eq_true rfl, Nat.le_of_ble_eq_true rfl⟩) ⟨kBlindT, va_recv hK hPc (ci := 10) (q0 := 0) rfl rfl, fun U hU hW => ⟨rfl, by rw [hU], hN.warm hW, hE.pass hS hFc hW hU, hT99.pass hS hFc hW hU, by rw [hU]; exact hPc, va_K.moved hW.alike hK, hDc⟩⟩ rfl rfl hl.1 rfl (lv_room (Nat.le_of_ble_eq_true rfl)) dX11_readShirt_51 ⟨Nat.le_of_ble_eq_true rfl, Nat.le_of_ble_eq_true rfl⟩) (fun r100 u H locs hw hP hD hS => ?_)
        obtain ⟨x101, x102⟩ := u
        have hP : va_P D vwCl [(aw, .inl (cI, 2179, .inl fw)), (h, oX11 th aw ai ab ac hi re aP ta x101 en x102 de fa a5 sp av an ak ne aW aC ag aT aN aF), (aP, .inl (cB, 400, .inl ft))] H := hP
        have hD : va_D A [(aw, .inl (cI, 2179, .inl fw)), (h, oX11 th aw ai ab ac hi re aP ta x101 en x102 de fa a5 sp av an ak ne aW aC ag aT aN aF), (aP, .inl (cB, 400, .inl ft))] := hD
        obtain ⟨k103, k104, k105⟩ := hw
        exact hJ54 (r100, x101, x102) _ _ _ ⟨k105, k103, k104, hP.sub (ws' := [(aw, .inl (cI, 2179, .inl fw)), (h, oX11 th aw ai ab ac hi re aP ta x101 en x102 de fa a5 sp av an ak ne aW aC ag aT aN aF), (aP, .inl (cB, 400, .inl ft))]) [0, 1, 2] rfl, hD.sub (ws' := [(aw, .inl (cI, 2179, .inl fw)), (h, oX11 th aw ai ab ac hi re aP ta x101 en x102 de fa a5 sp av an ak ne aW aC ag aT aN aF), (aP, .inl (cB, 400, .inl ft))]) [0, 1, 2] (by decide) rfl, hS, lv_sub (l' := [(3, .int z28), (2, .int r6), (1, .int r1), (0, .ref h)]) hl [0, 1, 2, 3] rfl⟩
      · skip
        have k106 : Rg z28 (-1) (-1) := rg_l1 (nleI c94) hz28 (rg_lit (n := 0) (by decide)) (by decide)
        refine lv_iconst (v := (-1)) hx hb dX11_readShirt_41 (by decide) ?_
        refine lv_goto (tgt := 54) hx hb dX11_readShirt_42 (by decide) ?_
        exact hJ54 ((-1 : Int32), y29, y30) _ _ _ ⟨(rg_w (rg_lit (n := -1) (by decide)) (by decide)), hy29, hy30, hP.sub (ws' := [(aw, .inl (cI, 2179, .inl fw)), (h, oX11 th aw ai ab ac hi re aP ta y29 en y30 de fa a5 sp av an ak ne aW aC ag aT aN aF), (aP, .inl (cB, 400, .inl ft))]) [0, 1, 2] rfl, hD.sub (ws' := [(aw, .inl (cI, 2179, .inl fw)), (h, oX11 th aw ai ab ac hi re aP ta y29 en y30 de fa a5 sp av an ak ne aW aC ag aT aN aF), (aP, .inl (cB, 400, .inl ft))]) [0, 1, 2] (by decide) rfl, hS, lv_sub (l' := [(3, .int z28), (2, .int r6), (1, .int r1), (0, .ref h)]) hl [0, 1, 2, 3] rfl⟩
    refine lv_if_ge (tgt := 26) hx hb dX11_readShirt_19 (by decide) (fun c107 => ?_) (fun c107 => ?_)
    · skip
      have k108 : Rg r6 0 2 := rg_e2 (leI c107) (rg_lit (n := 0) (by decide)) k11 (by decide)
      refine lv_aload_n hx hb dX11_readShirt_26 rfl (lv_at hl 2 rfl) ?_
      obtain ⟨q109, q110, hR111, hT112⟩ := kTx_9 hE.2.2
      refine va_ldcS hx hb hown hR111 dX11_readShirt_27 ?_
      refine lv_iconst (v := 0) hx hb dX11_readShirt_29 (by decide) ?_
      refine lv_sipush (v := 999) hx hb dX11_readShirt_30 (by decide) ?_
      refine kcalli (wc := [(h, oX11 th aw ai ab ac hi re aP ta x7 en x8 de fa a5 sp av an ak ne aW aC ag aT aN aF), (aP, .inl (cB, 400, .inl ft))]) (wr := [(aw, .inl (cI, 2179, .inl fw))]) hP hD hS hA [1, 2] [0] rfl rfl (by decide) (by decide) (by decide) (fun hPc hDc hFc => va_runV (As := [.ref q109, .int 0, .int 999]) (rest := []) ⟨hx, hb, hml, hown, hts⟩ (r_after_999 l D cI cJ cB cC h th aw ai ab ac hi re aP ta x7 en x8 de fa a5 sp av an ak ne aW aC ag aT aN aF ft q109 kSb9 q110 H.size k9 H_en kSb9_le) (cwV 3 hts gX11_readShirt_X11_after rfl rfl rfl ⟨rfl, hdX11_after⟩ ⟨Nat.le_of_ble_eq_true rfl, Nat.le_of_ble_eq_true rfl⟩) ⟨kBlindT, va_recv hK hPc (ci := 10) (q0 := 0) rfl rfl, fun U hU hW => ⟨rfl, by rw [hU], hN.warm hW, hE.pass hS hFc hW hU, hT112.pass hS hFc hW hU, by rw [hU]; exact hPc, va_K.moved hW.alike hK, hDc⟩⟩ rfl rfl hl.1 rfl (lv_room (Nat.le_of_ble_eq_true rfl)) dX11_readShirt_33 ⟨Nat.le_of_ble_eq_true rfl, Nat.le_of_ble_eq_true rfl⟩) (fun r113 u H locs hw hP hD hS => ?_)
      obtain ⟨x114, x115⟩ := u
      have hP : va_P D vwCl [(aw, .inl (cI, 2179, .inl fw)), (h, oX11 th aw ai ab ac hi re aP ta x114 en x115 de fa a5 sp av an ak ne aW aC ag aT aN aF), (aP, .inl (cB, 400, .inl ft))] H := hP
      have hD : va_D A [(aw, .inl (cI, 2179, .inl fw)), (h, oX11 th aw ai ab ac hi re aP ta x114 en x115 de fa a5 sp av an ak ne aW aC ag aT aN aF), (aP, .inl (cB, 400, .inl ft))] := hD
      obtain ⟨k116, k117, k118⟩ := hw
      exact hJ36 (r113, x114, x115) _ _ _ ⟨k118, k116, k117, hP.sub (ws' := [(aw, .inl (cI, 2179, .inl fw)), (h, oX11 th aw ai ab ac hi re aP ta x114 en x115 de fa a5 sp av an ak ne aW aC ag aT aN aF), (aP, .inl (cB, 400, .inl ft))]) [0, 1, 2] rfl, hD.sub (ws' := [(aw, .inl (cI, 2179, .inl fw)), (h, oX11 th aw ai ab ac hi re aP ta x114 en x115 de fa a5 sp av an ak ne aW aC ag aT aN aF), (aP, .inl (cB, 400, .inl ft))]) [0, 1, 2] (by decide) rfl, hS, lv_sub (l' := [(2, .int r6), (1, .int r1), (0, .ref h)]) hl [0, 1, 2] rfl⟩
    · skip
      have k119 : Rg r6 (-1) (-1) := rg_l1 (nleI c107) k11 (rg_lit (n := 0) (by decide)) (by decide)
      refine lv_iconst (v := (-1)) hx hb dX11_readShirt_22 (by decide) ?_
      refine lv_goto (tgt := 36) hx hb dX11_readShirt_23 (by decide) ?_
      exact hJ36 ((-1 : Int32), x7, x8) _ _ _ ⟨(rg_w (rg_lit (n := -1) (by decide)) (by decide)), k9, k10, hP.sub (ws' := [(aw, .inl (cI, 2179, .inl fw)), (h, oX11 th aw ai ab ac hi re aP ta x7 en x8 de fa a5 sp av an ak ne aW aC ag aT aN aF), (aP, .inl (cB, 400, .inl ft))]) [0, 1, 2] rfl, hD.sub (ws' := [(aw, .inl (cI, 2179, .inl fw)), (h, oX11 th aw ai ab ac hi re aP ta x7 en x8 de fa a5 sp av an ak ne aW aC ag aT aN aF), (aP, .inl (cB, 400, .inl ft))]) [0, 1, 2] (by decide) rfl, hS, lv_sub (l' := [(2, .int r6), (1, .int r1), (0, .ref h)]) hl [0, 1, 2] rfl⟩
  · skip
    have k120 : Rg r1 12 12 := rg_q1 (eqI c4) k3 (rg_lit (n := 12) (by decide)) (by decide)
    refine lv_iconst (v := 0) hx hb dX11_readShirt_11 (by decide) ?_
    have hP9 := hP.sub (ws' := [(h, oX11 th aw ai ab ac hi re aP ta po en be de fa a5 sp av an ak ne aW aC ag aT aN aF), (aw, .inl (cI, 2179, .inl fw)), (aP, .inl (cB, 400, .inl ft))]) [0, 1, 2] rfl
    have hD9 := hD.sub (ws' := [(h, oX11 th aw ai ab ac hi re aP ta po en be de fa a5 sp av an ak ne aW aC ag aT aN aF), (aw, .inl (cI, 2179, .inl fw)), (aP, .inl (cB, 400, .inl ft))]) [0, 1, 2] (by decide) rfl
    exact W.zret (v := 0) hx hb hr (by decide) (fun t ht hW => ⟨⟨0, (po, be, fw), rfl, ⟨H_po, H_fw_B, H_fw_L, H_fw_W, (Or.inl rfl)⟩, by rw [ht]; exact hP9, va_K.moved hW.alike hK, hD9⟩, hS.F ht⟩) hS.2.2 dX11_readShirt_12

def kwX11_readWears : List Cond := .code yX11_readWears cX11_readWears 3 (some .boolean) :: kG
theorem hdX11_readWears : yX11_readWears.cls ≠ "java/lang/invoke/MethodHandle" ∧ yX11_readWears.cls ≠ "java/lang/invoke/VarHandle" ∧ (parseMethodDescriptor yX11_readWears.desc).map (fun d => d.parameters.length) = some 0 := by decide +kernel
theorem gX11_readWears_X11_men : GoodIn kG (wsV RX11 71 RX11 yX11_men kwX11_men) := gK w19_17 (gK w19_18 (gK w19_19 (gK w0_5 (gK w19_20 gGG))))
theorem gX11_readWears_X11_number : GoodIn kG (wsV RX11 118 RX11 yX11_number kwX11_number) := gK w19_21 (gK w19_22 (gK w19_23 (gK w0_5 (gK w20_0 gGG))))
theorem gX11_readWears_X11_of : GoodIn kG (wsV RX11 156 RX11 yX11_of kwX11_of) := gK w21_9 (gK w21_10 (gK w21_11 (gK w0_5 (gK w21_12 gGG))))
theorem gX11_readWears_X11_ofMan : GoodIn kG (wsV RX11 153 RX11 yX11_ofMan kwX11_ofMan) := gK w21_5 (gK w21_6 (gK w21_7 (gK w0_5 (gK w21_8 gGG))))
theorem gX11_readWears_X11_sets : GoodIn kG (wsV RX11 150 RX11 yX11_sets kwX11_sets) := gK w20_21 (gK w20_22 (gK w20_23 (gK w0_5 (gK w21_0 gGG))))
theorem gX11_readWears_X11_setsMan : GoodIn kG (wsV RX11 141 RX11 yX11_setsMan kwX11_setsMan) := gK w20_9 (gK w20_10 (gK w20_11 (gK w0_5 (gK w20_12 gGG))))
theorem gX11_readWears_X11_shirts : GoodIn kG (wsV RX11 79 RX11 yX11_shirts kwX11_shirts) := gK w20_17 (gK w20_18 (gK w20_19 (gK w0_5 (gK w20_20 gGG))))
theorem dX11_readWears_0 : decode cX11_readWears 0 = .ok (.aload_n 0, 1) := by decide +kernel
theorem dX11_readWears_1 : decode cX11_readWears 1 = .ok (.iconst 0, 1) := by decide +kernel
theorem dX11_readWears_2 : decode cX11_readWears 2 = .ok (.aload_n 0, 1) := by decide +kernel
theorem dX11_readWears_3 : decode cX11_readWears 3 = .ok (.invokevirtual 71, 3) := by decide +kernel
theorem dX11_readWears_6 : decode cX11_readWears 6 = .ok (.iconst 1, 1) := by decide +kernel
theorem dX11_readWears_7 : decode cX11_readWears 7 = .ok (.isub, 1) := by decide +kernel
theorem dX11_readWears_8 : decode cX11_readWears 8 = .ok (.invokevirtual 118, 3) := by decide +kernel
theorem dX11_readWears_11 : decode cX11_readWears 11 = .ok (.istore_n 1, 1) := by decide +kernel
theorem dX11_readWears_12 : decode cX11_readWears 12 = .ok (.iload_n 1, 1) := by decide +kernel
theorem dX11_readWears_13 : decode cX11_readWears 13 = .ok (.ifCond .lt 12, 3) := by decide +kernel
theorem dX11_readWears_16 : decode cX11_readWears 16 = .ok (.aload_n 0, 1) := by decide +kernel
theorem dX11_readWears_17 : decode cX11_readWears 17 = .ok (.iload_n 1, 1) := by decide +kernel
theorem dX11_readWears_18 : decode cX11_readWears 18 = .ok (.iconst 4, 1) := by decide +kernel
theorem dX11_readWears_19 : decode cX11_readWears 19 = .ok (.invokevirtual 153, 3) := by decide +kernel
theorem dX11_readWears_22 : decode cX11_readWears 22 = .ok (.ifCond .lt 5, 3) := by decide +kernel
theorem dX11_readWears_25 : decode cX11_readWears 25 = .ok (.iconst 0, 1) := by decide +kernel
theorem dX11_readWears_26 : decode cX11_readWears 26 = .ok (.ireturn, 1) := by decide +kernel
theorem dX11_readWears_27 : decode cX11_readWears 27 = .ok (.aload_n 0, 1) := by decide +kernel
theorem dX11_readWears_28 : decode cX11_readWears 28 = .ok (.iconst 0, 1) := by decide +kernel
theorem dX11_readWears_29 : decode cX11_readWears 29 = .ok (.aload_n 0, 1) := by decide +kernel
theorem dX11_readWears_30 : decode cX11_readWears 30 = .ok (.invokevirtual 79, 3) := by decide +kernel
theorem dX11_readWears_33 : decode cX11_readWears 33 = .ok (.iconst 1, 1) := by decide +kernel
theorem dX11_readWears_34 : decode cX11_readWears 34 = .ok (.isub, 1) := by decide +kernel
theorem dX11_readWears_35 : decode cX11_readWears 35 = .ok (.invokevirtual 118, 3) := by decide +kernel
theorem dX11_readWears_38 : decode cX11_readWears 38 = .ok (.istore_n 2, 1) := by decide +kernel
theorem dX11_readWears_39 : decode cX11_readWears 39 = .ok (.iload_n 2, 1) := by decide +kernel
theorem dX11_readWears_40 : decode cX11_readWears 40 = .ok (.ifCond .lt 12, 3) := by decide +kernel
theorem dX11_readWears_43 : decode cX11_readWears 43 = .ok (.aload_n 0, 1) := by decide +kernel
theorem dX11_readWears_44 : decode cX11_readWears 44 = .ok (.iload_n 2, 1) := by decide +kernel
theorem dX11_readWears_45 : decode cX11_readWears 45 = .ok (.iconst 5, 1) := by decide +kernel
theorem dX11_readWears_46 : decode cX11_readWears 46 = .ok (.invokevirtual 156, 3) := by decide +kernel
theorem dX11_readWears_49 : decode cX11_readWears 49 = .ok (.ifCond .lt 5, 3) := by decide +kernel
theorem dX11_readWears_52 : decode cX11_readWears 52 = .ok (.iconst 0, 1) := by decide +kernel
theorem dX11_readWears_53 : decode cX11_readWears 53 = .ok (.ireturn, 1) := by decide +kernel
theorem dX11_readWears_54 : decode cX11_readWears 54 = .ok (.aload_n 0, 1) := by decide +kernel
theorem dX11_readWears_55 : decode cX11_readWears 55 = .ok (.iload_n 1, 1) := by decide +kernel
theorem dX11_readWears_56 : decode cX11_readWears 56 = .ok (.iconst 4, 1) := by decide +kernel
theorem dX11_readWears_57 : decode cX11_readWears 57 = .ok (.iload_n 2, 1) := by decide +kernel
theorem dX11_readWears_58 : decode cX11_readWears 58 = .ok (.invokevirtual 141, 3) := by decide +kernel
theorem dX11_readWears_61 : decode cX11_readWears 61 = .ok (.aload_n 0, 1) := by decide +kernel
theorem dX11_readWears_62 : decode cX11_readWears 62 = .ok (.iload_n 2, 1) := by decide +kernel
theorem dX11_readWears_63 : decode cX11_readWears 63 = .ok (.iconst 5, 1) := by decide +kernel
theorem dX11_readWears_64 : decode cX11_readWears 64 = .ok (.iload_n 1, 1) := by decide +kernel
theorem dX11_readWears_65 : decode cX11_readWears 65 = .ok (.invokevirtual 150, 3) := by decide +kernel
theorem dX11_readWears_68 : decode cX11_readWears 68 = .ok (.iconst 1, 1) := by decide +kernel
theorem dX11_readWears_69 : decode cX11_readWears 69 = .ok (.ireturn, 1) := by decide +kernel
set_option maxHeartbeats 4000000 in
set_option maxRecDepth 100000 in
/-- reference: readWears -/
theorem r_readWears (l : Launch) (D : va_G) (cI cJ cB cC : ClassId) (h : Nat) (th : Int32) (aw : Nat) (ai : Nat) (ab : Nat) (ac : Nat) (hi : Int32) (re : Int32) (aP : Nat) (ta : Int32) (po : Int32) (en : Int32) (be : Int32) (de : Int32) (fa : Int32) (a5 : Nat) (sp : Int32) (av : Nat) (an : Nat) (ak : Nat) (ne : Int32) (aW : Nat) (aC : Nat) (ag : Nat) (aT : Nat) (aN : Nat) (aF : Nat) (fw : Nat → Int32) (ft : Nat → Int32) (sz : Nat) (H_po : Rg po 0 400) (H_en : Rg en 0 400) (H_fw_W : wW fw) (H_fw_B : wB fw) (H_fw_L : wL fw) : Met l yX11_readWears kwX11_readWears ({ frames := 3, cells := 0, slots := 0, locals := 65 } : Room) (kPre D (kT cI cJ cB cC) sz [(h, oX11 th aw ai ab ac hi re aP ta po en be de fa a5 sp av an ak ne aW aC ag aT aN aF), (aw, .inl (cI, 2179, .inl fw)), (aP, .inl (cB, 400, .inl ft))] [.ref h]) (va_Qi (fun (r : Int32) (uu : Int32 × Int32 × (Nat → Int32)) => match uu with | (n0_, n1_, f2_) => Rg n0_ 0 400 ∧ Rg n1_ 0 400 ∧ wB f2_ ∧ wL f2_ ∧ wW f2_ ∧ ((r = 0) ∨ (r = 1))) (fun (uu : Int32 × Int32 × (Nat → Int32)) (t : State) => match uu with | (n0_, n1_, f2_) => kB D (kT cI cJ cB cC) (va_A [(h, oX11 th aw ai ab ac hi re aP ta po en be de fa a5 sp av an ak ne aW aC ag aT aN aF), (aw, .inl (cI, 2179, .inl fw)), (aP, .inl (cB, 400, .inl ft))] sz) [(h, oX11 th aw ai ab ac hi re aP ta n0_ en n1_ de fa a5 sp av an ak ne aW aC ag aT aN aF), (aw, .inl (cI, 2179, .inl f2_)), (aP, .inl (cB, 400, .inl ft))] t) (va_A [(h, oX11 th aw ai ab ac hi re aP ta po en be de fa a5 sp av an ak ne aW aC ag aT aN aF), (aw, .inl (cI, 2179, .inl fw)), (aP, .inl (cB, 400, .inl ft))] sz)) 0 0 (va_A [(h, oX11 th aw ai ab ac hi re aP ta po en be de fa a5 sp av an ak ne aW aC ag aT aN aF), (aw, .inl (cI, 2179, .inl fw)), (aP, .inl (cB, 400, .inl ft))] sz) := by
  refine Met.ofW (cc := cX11_readWears) (maxL := 3) (ret := (some .boolean)) (by decide) rfl ?_
  intro p e s m args below meth c s₁ B hml hv
  obtain ⟨rfl, hsz, hN, hE, hP, hK, hD0⟩ := hv
  have hx := B.exec
  have hb := B.bytes
  have hr := B.returns
  have hts := fun (w : Cond) (h : w ∈ kG) => atoms_spec (ws := kwX11_readWears) B.pre w (List.mem_cons_of_mem _ h)
  have hown : s.vm.findClass RX11 = some m.cls := findClass_of_methodNamed B.named
  subst hsz
  have hD := hD0.self (sz := s.heap.size)
  generalize hAe : va_A [(h, oX11 th aw ai ab ac hi re aP ta po en be de fa a5 sp av an ak ne aW aC ag aT aN aF), (aw, .inl (cI, 2179, .inl fw)), (aP, .inl (cB, 400, .inl ft))] s.heap.size = A at hD hE ⊢
  have hA : ∀ q : Nat, s.heap.size ≤ q → A q := fun q h => by rw [← hAe]; exact Or.inr h
  have hl := lv_entry ([.ref h]) (n := 3) (Nat.le_of_ble_eq_true rfl)
  rw [lg_entry_eq]
  generalize (lg_sl ([.ref h]) ++ List.replicate (3 - (lg_sl ([.ref h])).length) Slot.unset).toArray = ls at hl ⊢
  have hl : lv_has ls 3 [(0, .ref h)] := hl
  obtain ⟨H, hH0⟩ : ∃ H, H = s.heap := ⟨_, rfl⟩
  have hS : va_S A s.heap H [] := by rw [hH0]; exact va_S.rf
  have hP : va_P D vwCl [(h, oX11 th aw ai ab ac hi re aP ta po en be de fa a5 sp av an ak ne aW aC ag aT aN aF), (aw, .inl (cI, 2179, .inl fw)), (aP, .inl (cB, 400, .inl ft))] H := by rw [hH0]; exact hP
  refine kHeap hH0 ?_
  clear hH0
  refine lv_aload_n hx hb dX11_readWears_0 rfl (lv_at hl 0 rfl) ?_
  refine lv_iconst (v := 0) hx hb dX11_readWears_1 (by decide) ?_
  refine lv_aload_n hx hb dX11_readWears_2 rfl (lv_at hl 0 rfl) ?_
  refine kpurei (wc := [(h, oX11 th aw ai ab ac hi re aP ta po en be de fa a5 sp av an ak ne aW aC ag aT aN aF), (aw, .inl (cI, 2179, .inl fw))]) hP hD hS hA [0, 1] rfl (by decide) (fun hPc hDc hFc => va_runV (As := []) (rest := [.int 0, .ref h]) ⟨hx, hb, hml, hown, hts⟩ (r_men l D cI cJ cB cC h th aw ai ab ac hi re aP ta po en be de fa a5 sp av an ak ne aW aC ag aT aN aF fw H.size H_fw_W) (cwV 0 hts gX11_readWears_X11_men rfl rfl rfl ⟨rfl, hdX11_men⟩ ⟨Nat.le_of_ble_eq_true rfl, Nat.le_of_ble_eq_true rfl⟩) ⟨kBlind, va_recv hK hPc (ci := 10) (q0 := 0) rfl rfl, fun U hU hW => ⟨rfl, by rw [hU], hN.warm hW, hE.pass hS hFc hW hU, by rw [hU]; exact hPc, va_K.moved hW.alike hK, hDc⟩⟩ rfl rfl hl.1 rfl (lv_room (Nat.le_of_ble_eq_true rfl)) dX11_readWears_3 ⟨Nat.le_of_ble_eq_true rfl, Nat.le_of_ble_eq_true rfl⟩) (fun r1 u H locs hw hP hS => ?_)
  obtain ⟨k2, k3⟩ := hw
  refine lv_iconst (v := 1) hx hb dX11_readWears_6 (by decide) ?_
  refine lv_isub hx hb dX11_readWears_7 ?_
  refine lv_topi (fun x4 ex4 => ?_)
  have k5 : Rg x4 (-1) 9 := rg_sub ex4 k3 (rg_lit (n := 1) (by decide)) (by decide)
  clear ex4
  refine kcalli (wc := [(h, oX11 th aw ai ab ac hi re aP ta po en be de fa a5 sp av an ak ne aW aC ag aT aN aF), (aP, .inl (cB, 400, .inl ft))]) (wr := [(aw, .inl (cI, 2179, .inl fw))]) hP hD hS hA [0, 2] [1] rfl rfl (by decide) (by decide) (by decide) (fun hPc hDc hFc => va_runV (As := [.int 0, .int x4]) (rest := []) ⟨hx, hb, hml, hown, hts⟩ (r_number_men l D cI cJ cB cC h th aw ai ab ac hi re aP ta po en be de fa a5 sp av an ak ne aW aC ag aT aN aF ft x4 H.size H_po H_en k5) (cwV 2 hts gX11_readWears_X11_number rfl rfl rfl ⟨rfl, hdX11_number⟩ ⟨Nat.le_of_ble_eq_true rfl, Nat.le_of_ble_eq_true rfl⟩) ⟨kBlind, va_recv hK hPc (ci := 10) (q0 := 0) rfl rfl, fun U hU hW => ⟨rfl, by rw [hU], hN.warm hW, hE.pass hS hFc hW hU, by rw [hU]; exact hPc, va_K.moved hW.alike hK, hDc⟩⟩ rfl rfl hl.1 rfl (lv_room (Nat.le_of_ble_eq_true rfl)) dX11_readWears_8 ⟨Nat.le_of_ble_eq_true rfl, Nat.le_of_ble_eq_true rfl⟩) (fun r6 u H locs hw hP hD hS => ?_)
  obtain ⟨x7, x8⟩ := u
  have hP : va_P D vwCl [(aw, .inl (cI, 2179, .inl fw)), (h, oX11 th aw ai ab ac hi re aP ta x7 en x8 de fa a5 sp av an ak ne aW aC ag aT aN aF), (aP, .inl (cB, 400, .inl ft))] H := hP
  have hD : va_D A [(aw, .inl (cI, 2179, .inl fw)), (h, oX11 th aw ai ab ac hi re aP ta x7 en x8 de fa a5 sp av an ak ne aW aC ag aT aN aF), (aP, .inl (cB, 400, .inl ft))] := hD
  obtain ⟨k9, k10, k11, k12, k13⟩ := hw
  refine lv_istore_n (lv' := [(1, .int r6), (0, .ref h)]) hx hb dX11_readWears_11 rfl hl (by decide) rfl (fun ls hl => ?_)
  refine lv_iload_n hx hb dX11_readWears_12 rfl (lv_at hl 0 rfl) ?_
  refine k_join (hd := 25) (cells2 := 0) (slots2 := 0) (fun (_ : Unit) => []) (fun (_ : Unit) (H : Heap) (locs : List Loc) (ls : Array Slot) => va_P D vwCl [(aw, .inl (cI, 2179, .inl fw)), (h, oX11 th aw ai ab ac hi re aP ta x7 en x8 de fa a5 sp av an ak ne aW aC ag aT aN aF), (aP, .inl (cB, 400, .inl ft))] H ∧ va_D A [(aw, .inl (cI, 2179, .inl fw)), (h, oX11 th aw ai ab ac hi re aP ta x7 en x8 de fa a5 sp av an ak ne aW aC ag aT aN aF), (aP, .inl (cB, 400, .inl ft))] ∧ va_S A s.heap H locs ∧ lv_has ls 3 [(1, .int r6), (0, .ref h)]) (fun u H locs ls hI => ?_) (fun hJ25 => ?_)
  · skip
    clear hP hD hS hl
    obtain ⟨hP, hD, hS, hl⟩ := hI
    have hP : va_P D vwCl [(aw, .inl (cI, 2179, .inl fw)), (h, oX11 th aw ai ab ac hi re aP ta x7 en x8 de fa a5 sp av an ak ne aW aC ag aT aN aF), (aP, .inl (cB, 400, .inl ft))] H := hP
    have hD : va_D A [(aw, .inl (cI, 2179, .inl fw)), (h, oX11 th aw ai ab ac hi re aP ta x7 en x8 de fa a5 sp av an ak ne aW aC ag aT aN aF), (aP, .inl (cB, 400, .inl ft))] := hD
    have hl : lv_has ls 3 [(1, .int r6), (0, .ref h)] := hl
    refine lv_iconst (v := 0) hx hb dX11_readWears_25 (by decide) ?_
    have hP9 := hP.sub (ws' := [(h, oX11 th aw ai ab ac hi re aP ta x7 en x8 de fa a5 sp av an ak ne aW aC ag aT aN aF), (aw, .inl (cI, 2179, .inl fw)), (aP, .inl (cB, 400, .inl ft))]) [1, 0, 2] rfl
    have hD9 := hD.sub (ws' := [(h, oX11 th aw ai ab ac hi re aP ta x7 en x8 de fa a5 sp av an ak ne aW aC ag aT aN aF), (aw, .inl (cI, 2179, .inl fw)), (aP, .inl (cB, 400, .inl ft))]) [1, 0, 2] (by decide) rfl
    exact W.zret (v := 0) hx hb hr (by decide) (fun t ht hW => ⟨⟨0, (x7, x8, fw), rfl, ⟨k9, k10, H_fw_B, H_fw_L, H_fw_W, (Or.inl rfl)⟩, by rw [ht]; exact hP9, va_K.moved hW.alike hK, hD9⟩, hS.F ht⟩) hS.2.2 dX11_readWears_26
  refine lv_if_lt (tgt := 25) hx hb dX11_readWears_13 (by decide) (fun c53 => ?_) (fun c53 => ?_)
  · skip
    have k54 : Rg r6 (-1) (-1) := rg_l1 (ltI c53) k11 (rg_lit (n := 0) (by decide)) (by decide)
    exact hJ25 () _ _ _ ⟨hP.sub (ws' := [(aw, .inl (cI, 2179, .inl fw)), (h, oX11 th aw ai ab ac hi re aP ta x7 en x8 de fa a5 sp av an ak ne aW aC ag aT aN aF), (aP, .inl (cB, 400, .inl ft))]) [0, 1, 2] rfl, hD.sub (ws' := [(aw, .inl (cI, 2179, .inl fw)), (h, oX11 th aw ai ab ac hi re aP ta x7 en x8 de fa a5 sp av an ak ne aW aC ag aT aN aF), (aP, .inl (cB, 400, .inl ft))]) [0, 1, 2] (by decide) rfl, hS, lv_sub (l' := [(1, .int r6), (0, .ref h)]) hl [0, 1] rfl⟩
  · skip
    have k55 : Rg r6 0 9 := rg_e2 (nltI c53) (rg_lit (n := 0) (by decide)) k11 (by decide)
    refine lv_aload_n hx hb dX11_readWears_16 rfl (lv_at hl 1 rfl) ?_
    refine lv_iload_n hx hb dX11_readWears_17 rfl (lv_at hl 0 rfl) ?_
    refine lv_iconst (v := 4) hx hb dX11_readWears_18 (by decide) ?_
    refine kpurei (wc := [(h, oX11 th aw ai ab ac hi re aP ta x7 en x8 de fa a5 sp av an ak ne aW aC ag aT aN aF), (aw, .inl (cI, 2179, .inl fw))]) hP hD hS hA [1, 0] rfl (by decide) (fun hPc hDc hFc => va_runV (As := [.int r6, .int 4]) (rest := []) ⟨hx, hb, hml, hown, hts⟩ (r_ofMan4 l D cI cJ cB cC h th aw ai ab ac hi re aP ta x7 en x8 de fa a5 sp av an ak ne aW aC ag aT aN aF fw r6 H.size k55 H_fw_W) (cwV 2 hts gX11_readWears_X11_ofMan rfl rfl rfl ⟨rfl, hdX11_ofMan⟩ ⟨Nat.le_of_ble_eq_true rfl, Nat.le_of_ble_eq_true rfl⟩) ⟨kBlind, va_recv hK hPc (ci := 10) (q0 := 0) rfl rfl, fun U hU hW => ⟨rfl, by rw [hU], hN.warm hW, hE.pass hS hFc hW hU, by rw [hU]; exact hPc, va_K.moved hW.alike hK, hDc⟩⟩ rfl rfl hl.1 rfl (lv_room (Nat.le_of_ble_eq_true rfl)) dX11_readWears_19 ⟨Nat.le_of_ble_eq_true rfl, Nat.le_of_ble_eq_true rfl⟩) (fun r56 u H locs hw hP hS => ?_)
    obtain ⟨k57, k58⟩ := hw
    refine lv_if_lt (tgt := 27) hx hb dX11_readWears_22 (by decide) (fun c59 => ?_) (fun c59 => ?_)
    · skip
      have k60 : Rg r56 (-1) (-1) := rg_l1 (ltI c59) k58 (rg_lit (n := 0) (by decide)) (by decide)
      refine lv_aload_n hx hb dX11_readWears_27 rfl (lv_at hl 1 rfl) ?_
      refine lv_iconst (v := 0) hx hb dX11_readWears_28 (by decide) ?_
      refine lv_aload_n hx hb dX11_readWears_29 rfl (lv_at hl 1 rfl) ?_
      refine kpurei (wc := [(h, oX11 th aw ai ab ac hi re aP ta x7 en x8 de fa a5 sp av an ak ne aW aC ag aT aN aF), (aw, .inl (cI, 2179, .inl fw))]) hP hD hS hA [1, 0] rfl (by decide) (fun hPc hDc hFc => va_runV (As := []) (rest := [.int 0, .ref h]) ⟨hx, hb, hml, hown, hts⟩ (r_shirts l D cI cJ cB cC h th aw ai ab ac hi re aP ta x7 en x8 de fa a5 sp av an ak ne aW aC ag aT aN aF fw H.size H_fw_W) (cwV 0 hts gX11_readWears_X11_shirts rfl rfl rfl ⟨rfl, hdX11_shirts⟩ ⟨Nat.le_of_ble_eq_true rfl, Nat.le_of_ble_eq_true rfl⟩) ⟨kBlind, va_recv hK hPc (ci := 10) (q0 := 0) rfl rfl, fun U hU hW => ⟨rfl, by rw [hU], hN.warm hW, hE.pass hS hFc hW hU, by rw [hU]; exact hPc, va_K.moved hW.alike hK, hDc⟩⟩ rfl rfl hl.1 rfl (lv_room (Nat.le_of_ble_eq_true rfl)) dX11_readWears_30 ⟨Nat.le_of_ble_eq_true rfl, Nat.le_of_ble_eq_true rfl⟩) (fun r61 u H locs hw hP hS => ?_)
      obtain ⟨k62, k63⟩ := hw
      refine lv_iconst (v := 1) hx hb dX11_readWears_33 (by decide) ?_
      refine lv_isub hx hb dX11_readWears_34 ?_
      refine lv_topi (fun x64 ex64 => ?_)
      have k65 : Rg x64 (-1) 11 := rg_sub ex64 k63 (rg_lit (n := 1) (by decide)) (by decide)
      clear ex64
      refine kcalli (wc := [(h, oX11 th aw ai ab ac hi re aP ta x7 en x8 de fa a5 sp av an ak ne aW aC ag aT aN aF), (aP, .inl (cB, 400, .inl ft))]) (wr := [(aw, .inl (cI, 2179, .inl fw))]) hP hD hS hA [1, 2] [0] rfl rfl (by decide) (by decide) (by decide) (fun hPc hDc hFc => va_runV (As := [.int 0, .int x64]) (rest := []) ⟨hx, hb, hml, hown, hts⟩ (r_number_shirts l D cI cJ cB cC h th aw ai ab ac hi re aP ta x7 en x8 de fa a5 sp av an ak ne aW aC ag aT aN aF ft x64 H.size k9 H_en k65) (cwV 2 hts gX11_readWears_X11_number rfl rfl rfl ⟨rfl, hdX11_number⟩ ⟨Nat.le_of_ble_eq_true rfl, Nat.le_of_ble_eq_true rfl⟩) ⟨kBlind, va_recv hK hPc (ci := 10) (q0 := 0) rfl rfl, fun U hU hW => ⟨rfl, by rw [hU], hN.warm hW, hE.pass hS hFc hW hU, by rw [hU]; exact hPc, va_K.moved hW.alike hK, hDc⟩⟩ rfl rfl hl.1 rfl (lv_room (Nat.le_of_ble_eq_true rfl)) dX11_readWears_35 ⟨Nat.le_of_ble_eq_true rfl, Nat.le_of_ble_eq_true rfl⟩) (fun r66 u H locs hw hP hD hS => ?_)
      obtain ⟨x67, x68⟩ := u
      have hP : va_P D vwCl [(aw, .inl (cI, 2179, .inl fw)), (h, oX11 th aw ai ab ac hi re aP ta x67 en x68 de fa a5 sp av an ak ne aW aC ag aT aN aF), (aP, .inl (cB, 400, .inl ft))] H := hP
      have hD : va_D A [(aw, .inl (cI, 2179, .inl fw)), (h, oX11 th aw ai ab ac hi re aP ta x67 en x68 de fa a5 sp av an ak ne aW aC ag aT aN aF), (aP, .inl (cB, 400, .inl ft))] := hD
      obtain ⟨k69, k70, k71, k72, k73⟩ := hw
      refine lv_istore_n (lv' := [(2, .int r66), (1, .int r6), (0, .ref h)]) hx hb dX11_readWears_38 rfl hl (by decide) rfl (fun ls hl => ?_)
      refine lv_iload_n hx hb dX11_readWears_39 rfl (lv_at hl 0 rfl) ?_
      refine k_join (hd := 52) (cells2 := 0) (slots2 := 0) (fun (_ : Unit) => []) (fun (_ : Unit) (H : Heap) (locs : List Loc) (ls : Array Slot) => va_P D vwCl [(aw, .inl (cI, 2179, .inl fw)), (h, oX11 th aw ai ab ac hi re aP ta x67 en x68 de fa a5 sp av an ak ne aW aC ag aT aN aF), (aP, .inl (cB, 400, .inl ft))] H ∧ va_D A [(aw, .inl (cI, 2179, .inl fw)), (h, oX11 th aw ai ab ac hi re aP ta x67 en x68 de fa a5 sp av an ak ne aW aC ag aT aN aF), (aP, .inl (cB, 400, .inl ft))] ∧ va_S A s.heap H locs ∧ lv_has ls 3 [(2, .int r66), (1, .int r6), (0, .ref h)]) (fun u H locs ls hI => ?_) (fun hJ52 => ?_)
      · skip
        clear hP hD hS hl
        obtain ⟨hP, hD, hS, hl⟩ := hI
        have hP : va_P D vwCl [(aw, .inl (cI, 2179, .inl fw)), (h, oX11 th aw ai ab ac hi re aP ta x67 en x68 de fa a5 sp av an ak ne aW aC ag aT aN aF), (aP, .inl (cB, 400, .inl ft))] H := hP
        have hD : va_D A [(aw, .inl (cI, 2179, .inl fw)), (h, oX11 th aw ai ab ac hi re aP ta x67 en x68 de fa a5 sp av an ak ne aW aC ag aT aN aF), (aP, .inl (cB, 400, .inl ft))] := hD
        have hl : lv_has ls 3 [(2, .int r66), (1, .int r6), (0, .ref h)] := hl
        refine lv_iconst (v := 0) hx hb dX11_readWears_52 (by decide) ?_
        have hP9 := hP.sub (ws' := [(h, oX11 th aw ai ab ac hi re aP ta x67 en x68 de fa a5 sp av an ak ne aW aC ag aT aN aF), (aw, .inl (cI, 2179, .inl fw)), (aP, .inl (cB, 400, .inl ft))]) [1, 0, 2] rfl
        have hD9 := hD.sub (ws' := [(h, oX11 th aw ai ab ac hi re aP ta x67 en x68 de fa a5 sp av an ak ne aW aC ag aT aN aF), (aw, .inl (cI, 2179, .inl fw)), (aP, .inl (cB, 400, .inl ft))]) [1, 0, 2] (by decide) rfl
        exact W.zret (v := 0) hx hb hr (by decide) (fun t ht hW => ⟨⟨0, (x67, x68, fw), rfl, ⟨k69, k70, H_fw_B, H_fw_L, H_fw_W, (Or.inl rfl)⟩, by rw [ht]; exact hP9, va_K.moved hW.alike hK, hD9⟩, hS.F ht⟩) hS.2.2 dX11_readWears_53
      refine lv_if_lt (tgt := 52) hx hb dX11_readWears_40 (by decide) (fun c91 => ?_) (fun c91 => ?_)
      · skip
        have k92 : Rg r66 (-1) (-1) := rg_l1 (ltI c91) k71 (rg_lit (n := 0) (by decide)) (by decide)
        exact hJ52 () _ _ _ ⟨hP.sub (ws' := [(aw, .inl (cI, 2179, .inl fw)), (h, oX11 th aw ai ab ac hi re aP ta x67 en x68 de fa a5 sp av an ak ne aW aC ag aT aN aF), (aP, .inl (cB, 400, .inl ft))]) [0, 1, 2] rfl, hD.sub (ws' := [(aw, .inl (cI, 2179, .inl fw)), (h, oX11 th aw ai ab ac hi re aP ta x67 en x68 de fa a5 sp av an ak ne aW aC ag aT aN aF), (aP, .inl (cB, 400, .inl ft))]) [0, 1, 2] (by decide) rfl, hS, lv_sub (l' := [(2, .int r66), (1, .int r6), (0, .ref h)]) hl [0, 1, 2] rfl⟩
      · skip
        have k93 : Rg r66 0 11 := rg_e2 (nltI c91) (rg_lit (n := 0) (by decide)) k71 (by decide)
        refine lv_aload_n hx hb dX11_readWears_43 rfl (lv_at hl 2 rfl) ?_
        refine lv_iload_n hx hb dX11_readWears_44 rfl (lv_at hl 0 rfl) ?_
        refine lv_iconst (v := 5) hx hb dX11_readWears_45 (by decide) ?_
        refine kpurei (wc := [(h, oX11 th aw ai ab ac hi re aP ta x67 en x68 de fa a5 sp av an ak ne aW aC ag aT aN aF), (aw, .inl (cI, 2179, .inl fw))]) hP hD hS hA [1, 0] rfl (by decide) (fun hPc hDc hFc => va_runV (As := [.int r66, .int 5]) (rest := []) ⟨hx, hb, hml, hown, hts⟩ (r_of5 l D cI cJ cB cC h th aw ai ab ac hi re aP ta x67 en x68 de fa a5 sp av an ak ne aW aC ag aT aN aF fw r66 H.size k93 H_fw_W) (cwV 2 hts gX11_readWears_X11_of rfl rfl rfl ⟨rfl, hdX11_of⟩ ⟨Nat.le_of_ble_eq_true rfl, Nat.le_of_ble_eq_true rfl⟩) ⟨kBlind, va_recv hK hPc (ci := 10) (q0 := 0) rfl rfl, fun U hU hW => ⟨rfl, by rw [hU], hN.warm hW, hE.pass hS hFc hW hU, by rw [hU]; exact hPc, va_K.moved hW.alike hK, hDc⟩⟩ rfl rfl hl.1 rfl (lv_room (Nat.le_of_ble_eq_true rfl)) dX11_readWears_46 ⟨Nat.le_of_ble_eq_true rfl, Nat.le_of_ble_eq_true rfl⟩) (fun r94 u H locs hw hP hS => ?_)
        obtain ⟨k95, k96⟩ := hw
        refine lv_if_lt (tgt := 54) hx hb dX11_readWears_49 (by decide) (fun c97 => ?_) (fun c97 => ?_)
        · skip
          have k98 : Rg r94 (-1) (-1) := rg_l1 (ltI c97) k96 (rg_lit (n := 0) (by decide)) (by decide)
          refine lv_aload_n hx hb dX11_readWears_54 rfl (lv_at hl 2 rfl) ?_
          refine lv_iload_n hx hb dX11_readWears_55 rfl (lv_at hl 1 rfl) ?_
          refine lv_iconst (v := 4) hx hb dX11_readWears_56 (by decide) ?_
          refine lv_iload_n hx hb dX11_readWears_57 rfl (lv_at hl 0 rfl) ?_
          refine kcallv (wc := [(h, oX11 th aw ai ab ac hi re aP ta x67 en x68 de fa a5 sp av an ak ne aW aC ag aT aN aF), (aw, .inl (cI, 2179, .inl fw))]) (wr := [(aP, .inl (cB, 400, .inl ft))]) hP hD hS hA [1, 0] [2] rfl rfl (by decide) (by decide) (by decide) (fun hPc hDc hFc => va_runV (As := [.int r6, .int 4, .int r66]) (rest := []) ⟨hx, hb, hml, hown, hts⟩ (r_setsMan4 l D cI cJ cB cC h th aw ai ab ac hi re aP ta x67 en x68 de fa a5 sp av an ak ne aW aC ag aT aN aF fw r6 r66 H.size k55 (rg_w k93 (by decide)) H_fw_W H_fw_B H_fw_L) (cwV 3 hts gX11_readWears_X11_setsMan rfl rfl rfl ⟨rfl, hdX11_setsMan⟩ ⟨Nat.le_of_ble_eq_true rfl, Nat.le_of_ble_eq_true rfl⟩) ⟨kBlind, va_recv hK hPc (ci := 10) (q0 := 0) rfl rfl, fun U hU hW => ⟨rfl, by rw [hU], hN.warm hW, hE.pass hS hFc hW hU, by rw [hU]; exact hPc, va_K.moved hW.alike hK, hDc⟩⟩ rfl rfl hl.1 rfl (lv_room (Nat.le_of_ble_eq_true rfl)) dX11_readWears_58 ⟨Nat.le_of_ble_eq_true rfl, Nat.le_of_ble_eq_true rfl⟩) (fun u H locs hw hP hD hS => ?_)
          obtain ⟨g99, rfl⟩ : ∃ z, z = u := ⟨_, rfl⟩
          have hP : va_P D vwCl [(aP, .inl (cB, 400, .inl ft)), (h, oX11 th aw ai ab ac hi re aP ta x67 en x68 de fa a5 sp av an ak ne aW aC ag aT aN aF), (aw, .inl (cI, 2179, .inl g99))] H := hP
          have hD : va_D A [(aP, .inl (cB, 400, .inl ft)), (h, oX11 th aw ai ab ac hi re aP ta x67 en x68 de fa a5 sp av an ak ne aW aC ag aT aN aF), (aw, .inl (cI, 2179, .inl g99))] := hD
          obtain ⟨k100, k101, k102⟩ := hw
          refine lv_aload_n hx hb dX11_readWears_61 rfl (lv_at hl 2 rfl) ?_
          refine lv_iload_n hx hb dX11_readWears_62 rfl (lv_at hl 0 rfl) ?_
          refine lv_iconst (v := 5) hx hb dX11_readWears_63 (by decide) ?_
          refine lv_iload_n hx hb dX11_readWears_64 rfl (lv_at hl 1 rfl) ?_
          refine kcallv (wc := [(h, oX11 th aw ai ab ac hi re aP ta x67 en x68 de fa a5 sp av an ak ne aW aC ag aT aN aF), (aw, .inl (cI, 2179, .inl g99))]) (wr := [(aP, .inl (cB, 400, .inl ft))]) hP hD hS hA [1, 2] [0] rfl rfl (by decide) (by decide) (by decide) (fun hPc hDc hFc => va_runV (As := [.int r66, .int 5, .int r6]) (rest := []) ⟨hx, hb, hml, hown, hts⟩ (r_sets5 l D cI cJ cB cC h th aw ai ab ac hi re aP ta x67 en x68 de fa a5 sp av an ak ne aW aC ag aT aN aF g99 r66 r6 H.size k93 (rg_w k55 (by decide)) k102 k100 k101) (cwV 3 hts gX11_readWears_X11_sets rfl rfl rfl ⟨rfl, hdX11_sets⟩ ⟨Nat.le_of_ble_eq_true rfl, Nat.le_of_ble_eq_true rfl⟩) ⟨kBlind, va_recv hK hPc (ci := 10) (q0 := 0) rfl rfl, fun U hU hW => ⟨rfl, by rw [hU], hN.warm hW, hE.pass hS hFc hW hU, by rw [hU]; exact hPc, va_K.moved hW.alike hK, hDc⟩⟩ rfl rfl hl.1 rfl (lv_room (Nat.le_of_ble_eq_true rfl)) dX11_readWears_65 ⟨Nat.le_of_ble_eq_true rfl, Nat.le_of_ble_eq_true rfl⟩) (fun u H locs hw hP hD hS => ?_)
          obtain ⟨g103, rfl⟩ : ∃ z, z = u := ⟨_, rfl⟩
          have hP : va_P D vwCl [(aP, .inl (cB, 400, .inl ft)), (h, oX11 th aw ai ab ac hi re aP ta x67 en x68 de fa a5 sp av an ak ne aW aC ag aT aN aF), (aw, .inl (cI, 2179, .inl g103))] H := hP
          have hD : va_D A [(aP, .inl (cB, 400, .inl ft)), (h, oX11 th aw ai ab ac hi re aP ta x67 en x68 de fa a5 sp av an ak ne aW aC ag aT aN aF), (aw, .inl (cI, 2179, .inl g103))] := hD
          obtain ⟨k104, k105, k106⟩ := hw
          refine lv_iconst (v := 1) hx hb dX11_readWears_68 (by decide) ?_
          have hP9 := hP.sub (ws' := [(h, oX11 th aw ai ab ac hi re aP ta x67 en x68 de fa a5 sp av an ak ne aW aC ag aT aN aF), (aw, .inl (cI, 2179, .inl g103)), (aP, .inl (cB, 400, .inl ft))]) [1, 2, 0] rfl
          have hD9 := hD.sub (ws' := [(h, oX11 th aw ai ab ac hi re aP ta x67 en x68 de fa a5 sp av an ak ne aW aC ag aT aN aF), (aw, .inl (cI, 2179, .inl g103)), (aP, .inl (cB, 400, .inl ft))]) [1, 2, 0] (by decide) rfl
          exact W.zret (v := 1) hx hb hr (by decide) (fun t ht hW => ⟨⟨1, (x67, x68, g103), rfl, ⟨k69, k70, k104, k105, k106, (Or.inr rfl)⟩, by rw [ht]; exact hP9, va_K.moved hW.alike hK, hD9⟩, hS.F ht⟩) hS.2.2 dX11_readWears_69
        · skip
          have k107 : Rg r94 0 9 := rg_e2 (nltI c97) (rg_lit (n := 0) (by decide)) k96 (by decide)
          exact hJ52 () _ _ _ ⟨hP.sub (ws' := [(aw, .inl (cI, 2179, .inl fw)), (h, oX11 th aw ai ab ac hi re aP ta x67 en x68 de fa a5 sp av an ak ne aW aC ag aT aN aF), (aP, .inl (cB, 400, .inl ft))]) [0, 1, 2] rfl, hD.sub (ws' := [(aw, .inl (cI, 2179, .inl fw)), (h, oX11 th aw ai ab ac hi re aP ta x67 en x68 de fa a5 sp av an ak ne aW aC ag aT aN aF), (aP, .inl (cB, 400, .inl ft))]) [0, 1, 2] (by decide) rfl, hS, lv_sub (l' := [(2, .int r66), (1, .int r6), (0, .ref h)]) hl [0, 1, 2] rfl⟩
    · skip
      have k108 : Rg r56 0 11 := rg_e2 (nltI c59) (rg_lit (n := 0) (by decide)) k58 (by decide)
      exact hJ25 () _ _ _ ⟨hP.sub (ws' := [(aw, .inl (cI, 2179, .inl fw)), (h, oX11 th aw ai ab ac hi re aP ta x7 en x8 de fa a5 sp av an ak ne aW aC ag aT aN aF), (aP, .inl (cB, 400, .inl ft))]) [0, 1, 2] rfl, hD.sub (ws' := [(aw, .inl (cI, 2179, .inl fw)), (h, oX11 th aw ai ab ac hi re aP ta x7 en x8 de fa a5 sp av an ak ne aW aC ag aT aN aF), (aP, .inl (cB, 400, .inl ft))]) [0, 1, 2] (by decide) rfl, hS, lv_sub (l' := [(1, .int r6), (0, .ref h)]) hl [0, 1] rfl⟩

def kwX11_readCampLine : List Cond := .code yX11_readCampLine cX11_readCampLine 3 (some .boolean) :: kG
theorem hdX11_readCampLine : yX11_readCampLine.cls ≠ "java/lang/invoke/MethodHandle" ∧ yX11_readCampLine.cls ≠ "java/lang/invoke/VarHandle" ∧ (parseMethodDescriptor yX11_readCampLine.desc).map (fun d => d.parameters.length) = some 0 := by decide +kernel
theorem gX11_readCampLine_X11_isWord : GoodIn kG (wsV RX11 114 RX11 yX11_isWord kwX11_isWord) := gK w19_7 (gK w19_8 (gK w19_9 (gK w0_5 (gK w19_10 gGG))))
theorem gX11_readCampLine_X11_number : GoodIn kG (wsV RX11 118 RX11 yX11_number kwX11_number) := gK w19_21 (gK w19_22 (gK w19_23 (gK w0_5 (gK w20_0 gGG))))
theorem gX11_readCampLine_X11_readMan : GoodIn kG (wsV RX11 161 RX11 yX11_readMan kwX11_readMan) := gK w19_13 (gK w19_14 (gK w19_15 (gK w0_5 (gK w19_16 gGG))))
theorem gX11_readCampLine_X11_readShirt : GoodIn kG (wsV RX11 167 RX11 yX11_readShirt kwX11_readShirt) := gK w20_13 (gK w20_14 (gK w20_15 (gK w0_5 (gK w20_16 gGG))))
theorem gX11_readCampLine_X11_readWears : GoodIn kG (wsV RX11 172 RX11 yX11_readWears kwX11_readWears) := gK w21_1 (gK w21_2 (gK w21_3 (gK w0_5 (gK w21_4 gGG))))
theorem dX11_readCampLine_0 : decode cX11_readCampLine 0 = .ok (.aload_n 0, 1) := by decide +kernel
theorem dX11_readCampLine_1 : decode cX11_readCampLine 1 = .ok (.ldc 159, 2) := by decide +kernel
theorem dX11_readCampLine_3 : decode cX11_readCampLine 3 = .ok (.invokevirtual 114, 3) := by decide +kernel
theorem dX11_readCampLine_6 : decode cX11_readCampLine 6 = .ok (.ifCond .eq 8, 3) := by decide +kernel
theorem dX11_readCampLine_9 : decode cX11_readCampLine 9 = .ok (.aload_n 0, 1) := by decide +kernel
theorem dX11_readCampLine_10 : decode cX11_readCampLine 10 = .ok (.invokevirtual 161, 3) := by decide +kernel
theorem dX11_readCampLine_13 : decode cX11_readCampLine 13 = .ok (.ireturn, 1) := by decide +kernel
theorem dX11_readCampLine_14 : decode cX11_readCampLine 14 = .ok (.aload_n 0, 1) := by decide +kernel
theorem dX11_readCampLine_15 : decode cX11_readCampLine 15 = .ok (.ldc 165, 2) := by decide +kernel
theorem dX11_readCampLine_17 : decode cX11_readCampLine 17 = .ok (.invokevirtual 114, 3) := by decide +kernel
theorem dX11_readCampLine_20 : decode cX11_readCampLine 20 = .ok (.ifCond .eq 8, 3) := by decide +kernel
theorem dX11_readCampLine_23 : decode cX11_readCampLine 23 = .ok (.aload_n 0, 1) := by decide +kernel
theorem dX11_readCampLine_24 : decode cX11_readCampLine 24 = .ok (.invokevirtual 167, 3) := by decide +kernel
theorem dX11_readCampLine_27 : decode cX11_readCampLine 27 = .ok (.ireturn, 1) := by decide +kernel
theorem dX11_readCampLine_28 : decode cX11_readCampLine 28 = .ok (.aload_n 0, 1) := by decide +kernel
theorem dX11_readCampLine_29 : decode cX11_readCampLine 29 = .ok (.ldc 170, 2) := by decide +kernel
theorem dX11_readCampLine_31 : decode cX11_readCampLine 31 = .ok (.invokevirtual 114, 3) := by decide +kernel
theorem dX11_readCampLine_34 : decode cX11_readCampLine 34 = .ok (.ifCond .eq 8, 3) := by decide +kernel
theorem dX11_readCampLine_37 : decode cX11_readCampLine 37 = .ok (.aload_n 0, 1) := by decide +kernel
theorem dX11_readCampLine_38 : decode cX11_readCampLine 38 = .ok (.invokevirtual 172, 3) := by decide +kernel
theorem dX11_readCampLine_41 : decode cX11_readCampLine 41 = .ok (.ireturn, 1) := by decide +kernel
theorem dX11_readCampLine_42 : decode cX11_readCampLine 42 = .ok (.aload_n 0, 1) := by decide +kernel
theorem dX11_readCampLine_43 : decode cX11_readCampLine 43 = .ok (.ldc 175, 2) := by decide +kernel
theorem dX11_readCampLine_45 : decode cX11_readCampLine 45 = .ok (.invokevirtual 114, 3) := by decide +kernel
theorem dX11_readCampLine_48 : decode cX11_readCampLine 48 = .ok (.istore_n 1, 1) := by decide +kernel
theorem dX11_readCampLine_49 : decode cX11_readCampLine 49 = .ok (.iload_n 1, 1) := by decide +kernel
theorem dX11_readCampLine_50 : decode cX11_readCampLine 50 = .ok (.ifCond .eq 8, 3) := by decide +kernel
theorem dX11_readCampLine_53 : decode cX11_readCampLine 53 = .ok (.bipush 6, 2) := by decide +kernel
theorem dX11_readCampLine_55 : decode cX11_readCampLine 55 = .ok (.goto 32, 3) := by decide +kernel
theorem dX11_readCampLine_58 : decode cX11_readCampLine 58 = .ok (.aload_n 0, 1) := by decide +kernel
theorem dX11_readCampLine_59 : decode cX11_readCampLine 59 = .ok (.ldc 177, 2) := by decide +kernel
theorem dX11_readCampLine_61 : decode cX11_readCampLine 61 = .ok (.invokevirtual 114, 3) := by decide +kernel
theorem dX11_readCampLine_64 : decode cX11_readCampLine 64 = .ok (.ifCond .eq 8, 3) := by decide +kernel
theorem dX11_readCampLine_67 : decode cX11_readCampLine 67 = .ok (.bipush 7, 2) := by decide +kernel
theorem dX11_readCampLine_69 : decode cX11_readCampLine 69 = .ok (.goto 18, 3) := by decide +kernel
theorem dX11_readCampLine_72 : decode cX11_readCampLine 72 = .ok (.aload_n 0, 1) := by decide +kernel
theorem dX11_readCampLine_73 : decode cX11_readCampLine 73 = .ok (.ldc 179, 2) := by decide +kernel
theorem dX11_readCampLine_75 : decode cX11_readCampLine 75 = .ok (.invokevirtual 114, 3) := by decide +kernel
theorem dX11_readCampLine_78 : decode cX11_readCampLine 78 = .ok (.ifCond .eq 8, 3) := by decide +kernel
theorem dX11_readCampLine_81 : decode cX11_readCampLine 81 = .ok (.bipush 8, 2) := by decide +kernel
theorem dX11_readCampLine_83 : decode cX11_readCampLine 83 = .ok (.goto 4, 3) := by decide +kernel
theorem dX11_readCampLine_86 : decode cX11_readCampLine 86 = .ok (.iconst (-1), 1) := by decide +kernel
theorem dX11_readCampLine_87 : decode cX11_readCampLine 87 = .ok (.istore_n 2, 1) := by decide +kernel
theorem dX11_readCampLine_88 : decode cX11_readCampLine 88 = .ok (.iload_n 2, 1) := by decide +kernel
theorem dX11_readCampLine_89 : decode cX11_readCampLine 89 = .ok (.ifCond .ge 5, 3) := by decide +kernel
theorem dX11_readCampLine_92 : decode cX11_readCampLine 92 = .ok (.iconst 0, 1) := by decide +kernel
theorem dX11_readCampLine_93 : decode cX11_readCampLine 93 = .ok (.ireturn, 1) := by decide +kernel
theorem dX11_readCampLine_94 : decode cX11_readCampLine 94 = .ok (.aload_n 0, 1) := by decide +kernel
theorem dX11_readCampLine_95 : decode cX11_readCampLine 95 = .ok (.getfield 13, 3) := by decide +kernel
theorem dX11_readCampLine_98 : decode cX11_readCampLine 98 = .ok (.iload_n 2, 1) := by decide +kernel
theorem dX11_readCampLine_99 : decode cX11_readCampLine 99 = .ok (.aload_n 0, 1) := by decide +kernel
theorem dX11_readCampLine_100 : decode cX11_readCampLine 100 = .ok (.iconst 0, 1) := by decide +kernel
theorem dX11_readCampLine_101 : decode cX11_readCampLine 101 = .ok (.iload_n 1, 1) := by decide +kernel
theorem dX11_readCampLine_102 : decode cX11_readCampLine 102 = .ok (.ifCond .eq 8, 3) := by decide +kernel
theorem dX11_readCampLine_105 : decode cX11_readCampLine 105 = .ok (.bipush 99, 2) := by decide +kernel
theorem dX11_readCampLine_107 : decode cX11_readCampLine 107 = .ok (.goto 5, 3) := by decide +kernel
theorem dX11_readCampLine_110 : decode cX11_readCampLine 110 = .ok (.bipush 100, 2) := by decide +kernel
theorem dX11_readCampLine_112 : decode cX11_readCampLine 112 = .ok (.invokevirtual 118, 3) := by decide +kernel
theorem dX11_readCampLine_115 : decode cX11_readCampLine 115 = .ok (.iastore, 1) := by decide +kernel
theorem dX11_readCampLine_116 : decode cX11_readCampLine 116 = .ok (.aload_n 0, 1) := by decide +kernel
theorem dX11_readCampLine_117 : decode cX11_readCampLine 117 = .ok (.getfield 13, 3) := by decide +kernel
theorem dX11_readCampLine_120 : decode cX11_readCampLine 120 = .ok (.iload_n 2, 1) := by decide +kernel
theorem dX11_readCampLine_121 : decode cX11_readCampLine 121 = .ok (.iaload, 1) := by decide +kernel
theorem dX11_readCampLine_122 : decode cX11_readCampLine 122 = .ok (.ifCond .lt 7, 3) := by decide +kernel
theorem dX11_readCampLine_125 : decode cX11_readCampLine 125 = .ok (.iconst 1, 1) := by decide +kernel
theorem dX11_readCampLine_126 : decode cX11_readCampLine 126 = .ok (.goto 4, 3) := by decide +kernel
theorem dX11_readCampLine_129 : decode cX11_readCampLine 129 = .ok (.iconst 0, 1) := by decide +kernel
theorem dX11_readCampLine_130 : decode cX11_readCampLine 130 = .ok (.ireturn, 1) := by decide +kernel
set_option maxHeartbeats 4000000 in
set_option maxRecDepth 100000 in
/-- reference: readCampLine -/
theorem r_readCampLine (l : Launch) (D : va_G) (cI cJ cB cC : ClassId) (h : Nat) (th : Int32) (aw : Nat) (ai : Nat) (ab : Nat) (ac : Nat) (hi : Int32) (re : Int32) (aP : Nat) (ta : Int32) (po : Int32) (en : Int32) (be : Int32) (de : Int32) (fa : Int32) (a5 : Nat) (sp : Int32) (av : Nat) (an : Nat) (ak : Nat) (ne : Int32) (aW : Nat) (aC : Nat) (ag : Nat) (aT : Nat) (aN : Nat) (aF : Nat) (fw : Nat → Int32) (ft : Nat → Int32) (sz : Nat) (H_po : Rg po 0 400) (H_en : Rg en 0 400) (H_be : Rg be 0 400) (H_fw_W : wW fw) (H_fw_B : wB fw) (H_fw_L : wL fw) : Met l yX11_readCampLine kwX11_readCampLine ({ frames := 7, cells := 0, slots := 0, locals := 156 } : Room) (kPre D (kT cI cJ cB cC) sz [(h, oX11 th aw ai ab ac hi re aP ta po en be de fa a5 sp av an ak ne aW aC ag aT aN aF), (aw, .inl (cI, 2179, .inl fw)), (aP, .inl (cB, 400, .inl ft))] [.ref h]) (va_Qi (fun (r : Int32) (uu : Int32 × Int32 × (Nat → Int32)) => match uu with | (n0_, n1_, f2_) => Rg n0_ 0 400 ∧ wB f2_ ∧ wL f2_ ∧ wW f2_ ∧ ((r = 0) ∨ (r = 1))) (fun (uu : Int32 × Int32 × (Nat → Int32)) (t : State) => match uu with | (n0_, n1_, f2_) => kB D (kT cI cJ cB cC) (va_A [(h, oX11 th aw ai ab ac hi re aP ta po en be de fa a5 sp av an ak ne aW aC ag aT aN aF), (aw, .inl (cI, 2179, .inl fw)), (aP, .inl (cB, 400, .inl ft))] sz) [(h, oX11 th aw ai ab ac hi re aP ta n0_ en n1_ de fa a5 sp av an ak ne aW aC ag aT aN aF), (aw, .inl (cI, 2179, .inl f2_)), (aP, .inl (cB, 400, .inl ft))] t) (va_A [(h, oX11 th aw ai ab ac hi re aP ta po en be de fa a5 sp av an ak ne aW aC ag aT aN aF), (aw, .inl (cI, 2179, .inl fw)), (aP, .inl (cB, 400, .inl ft))] sz)) 0 0 (va_A [(h, oX11 th aw ai ab ac hi re aP ta po en be de fa a5 sp av an ak ne aW aC ag aT aN aF), (aw, .inl (cI, 2179, .inl fw)), (aP, .inl (cB, 400, .inl ft))] sz) := by
  refine Met.ofW (cc := cX11_readCampLine) (maxL := 3) (ret := (some .boolean)) (by decide) rfl ?_
  intro p e s m args below meth c s₁ B hml hv
  obtain ⟨rfl, hsz, hN, hE, hP, hK, hD0⟩ := hv
  have hx := B.exec
  have hb := B.bytes
  have hr := B.returns
  have hts := fun (w : Cond) (h : w ∈ kG) => atoms_spec (ws := kwX11_readCampLine) B.pre w (List.mem_cons_of_mem _ h)
  have hown : s.vm.findClass RX11 = some m.cls := findClass_of_methodNamed B.named
  subst hsz
  have hD := hD0.self (sz := s.heap.size)
  generalize hAe : va_A [(h, oX11 th aw ai ab ac hi re aP ta po en be de fa a5 sp av an ak ne aW aC ag aT aN aF), (aw, .inl (cI, 2179, .inl fw)), (aP, .inl (cB, 400, .inl ft))] s.heap.size = A at hD hE ⊢
  have hA : ∀ q : Nat, s.heap.size ≤ q → A q := fun q h => by rw [← hAe]; exact Or.inr h
  have hl := lv_entry ([.ref h]) (n := 3) (Nat.le_of_ble_eq_true rfl)
  rw [lg_entry_eq]
  generalize (lg_sl ([.ref h]) ++ List.replicate (3 - (lg_sl ([.ref h])).length) Slot.unset).toArray = ls at hl ⊢
  have hl : lv_has ls 3 [(0, .ref h)] := hl
  obtain ⟨H, hH0⟩ : ∃ H, H = s.heap := ⟨_, rfl⟩
  have hS : va_S A s.heap H [] := by rw [hH0]; exact va_S.rf
  have hP : va_P D vwCl [(h, oX11 th aw ai ab ac hi re aP ta po en be de fa a5 sp av an ak ne aW aC ag aT aN aF), (aw, .inl (cI, 2179, .inl fw)), (aP, .inl (cB, 400, .inl ft))] H := by rw [hH0]; exact hP
  refine kHeap hH0 ?_
  clear hH0
  refine lv_aload_n hx hb dX11_readCampLine_0 rfl (lv_at hl 0 rfl) ?_
  obtain ⟨q1, q2, hR3, hT4⟩ := kTx_1 hE.2.2
  refine va_ldcS hx hb hown hR3 dX11_readCampLine_1 ?_
  refine kpurei (wc := [(h, oX11 th aw ai ab ac hi re aP ta po en be de fa a5 sp av an ak ne aW aC ag aT aN aF), (aP, .inl (cB, 400, .inl ft))]) hP hD hS hA [0, 2] rfl (by decide) (fun hPc hDc hFc => va_runV (As := [.ref q1]) (rest := []) ⟨hx, hb, hml, hown, hts⟩ (r_isWord l D cI cJ cB cC h th aw ai ab ac hi re aP ta po en be de fa a5 sp av an ak ne aW aC ag aT aN aF ft q1 kSb1 q2 H.size H_po H_en H_be kSb1_le) (cwV 1 hts gX11_readCampLine_X11_isWord rfl rfl rfl ⟨rfl, hdX11_isWord⟩ ⟨Nat.le_of_ble_eq_true rfl, Nat.le_of_ble_eq_true rfl⟩) ⟨kBlindT, va_recv hK hPc (ci := 10) (q0 := 0) rfl rfl, fun U hU hW => ⟨rfl, by rw [hU], hN.warm hW, hE.pass hS hFc hW hU, hT4.pass hS hFc hW hU, by rw [hU]; exact hPc, va_K.moved hW.alike hK, hDc⟩⟩ rfl rfl hl.1 rfl (lv_room (Nat.le_of_ble_eq_true rfl)) dX11_readCampLine_3 ⟨Nat.le_of_ble_eq_true rfl, Nat.le_of_ble_eq_true rfl⟩) (fun r5 u H locs hw hP hS => ?_)
  obtain ⟨k6, k7⟩ := hw
  refine lv_if_eq (tgt := 14) hx hb dX11_readCampLine_6 (by decide) (fun c8 => ?_) (fun c8 => ?_)
  · skip
    have k9 : Rg r5 0 0 := rg_q1 (eqI c8) k6 (rg_lit (n := 0) (by decide)) (by decide)
    refine lv_aload_n hx hb dX11_readCampLine_14 rfl (lv_at hl 0 rfl) ?_
    obtain ⟨q10, q11, hR12, hT13⟩ := kTx_8 hE.2.2
    refine va_ldcS hx hb hown hR12 dX11_readCampLine_15 ?_
    refine kpurei (wc := [(h, oX11 th aw ai ab ac hi re aP ta po en be de fa a5 sp av an ak ne aW aC ag aT aN aF), (aP, .inl (cB, 400, .inl ft))]) hP hD hS hA [0, 2] rfl (by decide) (fun hPc hDc hFc => va_runV (As := [.ref q10]) (rest := []) ⟨hx, hb, hml, hown, hts⟩ (r_isWord l D cI cJ cB cC h th aw ai ab ac hi re aP ta po en be de fa a5 sp av an ak ne aW aC ag aT aN aF ft q10 kSb8 q11 H.size H_po H_en H_be kSb8_le) (cwV 1 hts gX11_readCampLine_X11_isWord rfl rfl rfl ⟨rfl, hdX11_isWord⟩ ⟨Nat.le_of_ble_eq_true rfl, Nat.le_of_ble_eq_true rfl⟩) ⟨kBlindT, va_recv hK hPc (ci := 10) (q0 := 0) rfl rfl, fun U hU hW => ⟨rfl, by rw [hU], hN.warm hW, hE.pass hS hFc hW hU, hT13.pass hS hFc hW hU, by rw [hU]; exact hPc, va_K.moved hW.alike hK, hDc⟩⟩ rfl rfl hl.1 rfl (lv_room (Nat.le_of_ble_eq_true rfl)) dX11_readCampLine_17 ⟨Nat.le_of_ble_eq_true rfl, Nat.le_of_ble_eq_true rfl⟩) (fun r14 u H locs hw hP hS => ?_)
    obtain ⟨k15, k16⟩ := hw
    refine lv_if_eq (tgt := 28) hx hb dX11_readCampLine_20 (by decide) (fun c17 => ?_) (fun c17 => ?_)
    · skip
      have k18 : Rg r14 0 0 := rg_q1 (eqI c17) k15 (rg_lit (n := 0) (by decide)) (by decide)
      refine lv_aload_n hx hb dX11_readCampLine_28 rfl (lv_at hl 0 rfl) ?_
      obtain ⟨q19, q20, hR21, hT22⟩ := kTx_12 hE.2.2
      refine va_ldcS hx hb hown hR21 dX11_readCampLine_29 ?_
      refine kpurei (wc := [(h, oX11 th aw ai ab ac hi re aP ta po en be de fa a5 sp av an ak ne aW aC ag aT aN aF), (aP, .inl (cB, 400, .inl ft))]) hP hD hS hA [0, 2] rfl (by decide) (fun hPc hDc hFc => va_runV (As := [.ref q19]) (rest := []) ⟨hx, hb, hml, hown, hts⟩ (r_isWord l D cI cJ cB cC h th aw ai ab ac hi re aP ta po en be de fa a5 sp av an ak ne aW aC ag aT aN aF ft q19 kSb12 q20 H.size H_po H_en H_be kSb12_le) (cwV 1 hts gX11_readCampLine_X11_isWord rfl rfl rfl ⟨rfl, hdX11_isWord⟩ ⟨Nat.le_of_ble_eq_true rfl, Nat.le_of_ble_eq_true rfl⟩) ⟨kBlindT, va_recv hK hPc (ci := 10) (q0 := 0) rfl rfl, fun U hU hW => ⟨rfl, by rw [hU], hN.warm hW, hE.pass hS hFc hW hU, hT22.pass hS hFc hW hU, by rw [hU]; exact hPc, va_K.moved hW.alike hK, hDc⟩⟩ rfl rfl hl.1 rfl (lv_room (Nat.le_of_ble_eq_true rfl)) dX11_readCampLine_31 ⟨Nat.le_of_ble_eq_true rfl, Nat.le_of_ble_eq_true rfl⟩) (fun r23 u H locs hw hP hS => ?_)
      obtain ⟨k24, k25⟩ := hw
      refine lv_if_eq (tgt := 42) hx hb dX11_readCampLine_34 (by decide) (fun c26 => ?_) (fun c26 => ?_)
      · skip
        have k27 : Rg r23 0 0 := rg_q1 (eqI c26) k24 (rg_lit (n := 0) (by decide)) (by decide)
        refine lv_aload_n hx hb dX11_readCampLine_42 rfl (lv_at hl 0 rfl) ?_
        obtain ⟨q28, q29, hR30, hT31⟩ := kTx_13 hE.2.2
        refine va_ldcS hx hb hown hR30 dX11_readCampLine_43 ?_
        refine kpurei (wc := [(h, oX11 th aw ai ab ac hi re aP ta po en be de fa a5 sp av an ak ne aW aC ag aT aN aF), (aP, .inl (cB, 400, .inl ft))]) hP hD hS hA [0, 2] rfl (by decide) (fun hPc hDc hFc => va_runV (As := [.ref q28]) (rest := []) ⟨hx, hb, hml, hown, hts⟩ (r_isWord l D cI cJ cB cC h th aw ai ab ac hi re aP ta po en be de fa a5 sp av an ak ne aW aC ag aT aN aF ft q28 kSb13 q29 H.size H_po H_en H_be kSb13_le) (cwV 1 hts gX11_readCampLine_X11_isWord rfl rfl rfl ⟨rfl, hdX11_isWord⟩ ⟨Nat.le_of_ble_eq_true rfl, Nat.le_of_ble_eq_true rfl⟩) ⟨kBlindT, va_recv hK hPc (ci := 10) (q0 := 0) rfl rfl, fun U hU hW => ⟨rfl, by rw [hU], hN.warm hW, hE.pass hS hFc hW hU, hT31.pass hS hFc hW hU, by rw [hU]; exact hPc, va_K.moved hW.alike hK, hDc⟩⟩ rfl rfl hl.1 rfl (lv_room (Nat.le_of_ble_eq_true rfl)) dX11_readCampLine_45 ⟨Nat.le_of_ble_eq_true rfl, Nat.le_of_ble_eq_true rfl⟩) (fun r32 u H locs hw hP hS => ?_)
        obtain ⟨k33, k34⟩ := hw
        refine lv_istore_n (lv' := [(1, .int r32), (0, .ref h)]) hx hb dX11_readCampLine_48 rfl hl (by decide) rfl (fun ls hl => ?_)
        refine lv_iload_n hx hb dX11_readCampLine_49 rfl (lv_at hl 0 rfl) ?_
        refine lv_if_eq (tgt := 58) hx hb dX11_readCampLine_50 (by decide) (fun c58 => ?_) (fun c58 => ?_)
        · skip
          have k59 : Rg r32 0 0 := rg_q1 (eqI c58) k33 (rg_lit (n := 0) (by decide)) (by decide)
          refine lv_aload_n hx hb dX11_readCampLine_58 rfl (lv_at hl 1 rfl) ?_
          obtain ⟨q60, q61, hR62, hT63⟩ := kTx_14 hE.2.2
          refine va_ldcS hx hb hown hR62 dX11_readCampLine_59 ?_
          refine kpurei (wc := [(h, oX11 th aw ai ab ac hi re aP ta po en be de fa a5 sp av an ak ne aW aC ag aT aN aF), (aP, .inl (cB, 400, .inl ft))]) hP hD hS hA [0, 2] rfl (by decide) (fun hPc hDc hFc => va_runV (As := [.ref q60]) (rest := []) ⟨hx, hb, hml, hown, hts⟩ (r_isWord l D cI cJ cB cC h th aw ai ab ac hi re aP ta po en be de fa a5 sp av an ak ne aW aC ag aT aN aF ft q60 kSb14 q61 H.size H_po H_en H_be kSb14_le) (cwV 1 hts gX11_readCampLine_X11_isWord rfl rfl rfl ⟨rfl, hdX11_isWord⟩ ⟨Nat.le_of_ble_eq_true rfl, Nat.le_of_ble_eq_true rfl⟩) ⟨kBlindT, va_recv hK hPc (ci := 10) (q0 := 0) rfl rfl, fun U hU hW => ⟨rfl, by rw [hU], hN.warm hW, hE.pass hS hFc hW hU, hT63.pass hS hFc hW hU, by rw [hU]; exact hPc, va_K.moved hW.alike hK, hDc⟩⟩ rfl rfl hl.1 rfl (lv_room (Nat.le_of_ble_eq_true rfl)) dX11_readCampLine_61 ⟨Nat.le_of_ble_eq_true rfl, Nat.le_of_ble_eq_true rfl⟩) (fun r64 u H locs hw hP hS => ?_)
          obtain ⟨k65, k66⟩ := hw
          refine lv_if_eq (tgt := 72) hx hb dX11_readCampLine_64 (by decide) (fun c67 => ?_) (fun c67 => ?_)
          · skip
            have k68 : Rg r64 0 0 := rg_q1 (eqI c67) k65 (rg_lit (n := 0) (by decide)) (by decide)
            refine lv_aload_n hx hb dX11_readCampLine_72 rfl (lv_at hl 1 rfl) ?_
            obtain ⟨q69, q70, hR71, hT72⟩ := kTx_15 hE.2.2
            refine va_ldcS hx hb hown hR71 dX11_readCampLine_73 ?_
            refine kpurei (wc := [(h, oX11 th aw ai ab ac hi re aP ta po en be de fa a5 sp av an ak ne aW aC ag aT aN aF), (aP, .inl (cB, 400, .inl ft))]) hP hD hS hA [0, 2] rfl (by decide) (fun hPc hDc hFc => va_runV (As := [.ref q69]) (rest := []) ⟨hx, hb, hml, hown, hts⟩ (r_isWord l D cI cJ cB cC h th aw ai ab ac hi re aP ta po en be de fa a5 sp av an ak ne aW aC ag aT aN aF ft q69 kSb15 q70 H.size H_po H_en H_be kSb15_le) (cwV 1 hts gX11_readCampLine_X11_isWord rfl rfl rfl ⟨rfl, hdX11_isWord⟩ ⟨Nat.le_of_ble_eq_true rfl, Nat.le_of_ble_eq_true rfl⟩) ⟨kBlindT, va_recv hK hPc (ci := 10) (q0 := 0) rfl rfl, fun U hU hW => ⟨rfl, by rw [hU], hN.warm hW, hE.pass hS hFc hW hU, hT72.pass hS hFc hW hU, by rw [hU]; exact hPc, va_K.moved hW.alike hK, hDc⟩⟩ rfl rfl hl.1 rfl (lv_room (Nat.le_of_ble_eq_true rfl)) dX11_readCampLine_75 ⟨Nat.le_of_ble_eq_true rfl, Nat.le_of_ble_eq_true rfl⟩) (fun r73 u H locs hw hP hS => ?_)
            obtain ⟨k74, k75⟩ := hw
            refine lv_if_eq (tgt := 86) hx hb dX11_readCampLine_78 (by decide) (fun c76 => ?_) (fun c76 => ?_)
            · skip
              have k77 : Rg r73 0 0 := rg_q1 (eqI c76) k74 (rg_lit (n := 0) (by decide)) (by decide)
              refine lv_iconst (v := (-1)) hx hb dX11_readCampLine_86 (by decide) ?_
              refine lv_istore_n (lv' := [(2, .int (-1)), (1, .int r32), (0, .ref h)]) hx hb dX11_readCampLine_87 rfl hl (by decide) rfl (fun ls hl => ?_)
              refine lv_iload_n hx hb dX11_readCampLine_88 rfl (lv_at hl 0 rfl) ?_
              refine lv_if_ge (tgt := 94) hx hb dX11_readCampLine_89 (by decide) (fun c78 => absurd c78 (by decide)) (fun _ => ?_)
              refine lv_iconst (v := 0) hx hb dX11_readCampLine_92 (by decide) ?_
              have hP9 := hP.sub (ws' := [(h, oX11 th aw ai ab ac hi re aP ta po en be de fa a5 sp av an ak ne aW aC ag aT aN aF), (aw, .inl (cI, 2179, .inl fw)), (aP, .inl (cB, 400, .inl ft))]) [0, 1, 2] rfl
              have hD9 := hD.sub (ws' := [(h, oX11 th aw ai ab ac hi re aP ta po en be de fa a5 sp av an ak ne aW aC ag aT aN aF), (aw, .inl (cI, 2179, .inl fw)), (aP, .inl (cB, 400, .inl ft))]) [0, 1, 2] (by decide) rfl
              exact W.zret (v := 0) hx hb hr (by decide) (fun t ht hW => ⟨⟨0, (po, be, fw), rfl, ⟨H_po, H_fw_B, H_fw_L, H_fw_W, (Or.inl rfl)⟩, by rw [ht]; exact hP9, va_K.moved hW.alike hK, hD9⟩, hS.F ht⟩) hS.2.2 dX11_readCampLine_93
            · skip
              have k79 : Rg r73 1 1 := rg_n1 (neI c76) k74 (rg_lit (n := 0) (by decide)) (by decide)
              refine lv_bipush (v := 8) hx hb dX11_readCampLine_81 (by decide) ?_
              refine lv_goto (tgt := 87) hx hb dX11_readCampLine_83 (by decide) ?_
              refine lv_istore_n (lv' := [(2, .int 8), (1, .int r32), (0, .ref h)]) hx hb dX11_readCampLine_87 rfl hl (by decide) rfl (fun ls hl => ?_)
              refine lv_iload_n hx hb dX11_readCampLine_88 rfl (lv_at hl 0 rfl) ?_
              refine lv_if_ge (tgt := 94) hx hb dX11_readCampLine_89 (by decide) (fun _ => ?_) (fun c80 => absurd (by decide) c80)
              refine lv_aload_n hx hb dX11_readCampLine_94 rfl (lv_at hl 2 rfl) ?_
              refine va_get (D := D) (ci := 10) (v := .ref aw) (C := RX11) (T := TX11) (N := 26) hx hb hts iG_X11 hown hK hP 0 rfl rfl 1 (by decide) (hts _ w5_3) (fun _ h9 => h9) rfl dX11_readCampLine_95 ?_
              refine lv_iload_n hx hb dX11_readCampLine_98 rfl (lv_at hl 0 rfl) ?_
              refine lv_aload_n hx hb dX11_readCampLine_99 rfl (lv_at hl 2 rfl) ?_
              refine lv_iconst (v := 0) hx hb dX11_readCampLine_100 (by decide) ?_
              refine lv_iload_n hx hb dX11_readCampLine_101 rfl (lv_at hl 1 rfl) ?_
              refine lv_if_eq (tgt := 110) hx hb dX11_readCampLine_102 (by decide) (fun _ => ?_) (fun c82 => absurd (rg_eq k59 (rg_lit (n := 0) (by decide)) (by decide)) c82)
              refine lv_bipush (v := 100) hx hb dX11_readCampLine_110 (by decide) ?_
              refine kcalli (wc := [(h, oX11 th aw ai ab ac hi re aP ta po en be de fa a5 sp av an ak ne aW aC ag aT aN aF), (aP, .inl (cB, 400, .inl ft))]) (wr := [(aw, .inl (cI, 2179, .inl fw))]) hP hD hS hA [0, 2] [1] rfl rfl (by decide) (by decide) (by decide) (fun hPc hDc hFc => va_runV (As := [.int 0, .int 100]) (rest := [.int 8, .ref aw]) ⟨hx, hb, hml, hown, hts⟩ (r_number_set l D cI cJ cB cC h th aw ai ab ac hi re aP ta po en be de fa a5 sp av an ak ne aW aC ag aT aN aF ft 100 H.size H_po H_en (rg_w (rg_lit (n := 100) (by decide)) (by decide))) (cwV 2 hts gX11_readCampLine_X11_number rfl rfl rfl ⟨rfl, hdX11_number⟩ ⟨Nat.le_of_ble_eq_true rfl, Nat.le_of_ble_eq_true rfl⟩) ⟨kBlind, va_recv hK hPc (ci := 10) (q0 := 0) rfl rfl, fun U hU hW => ⟨rfl, by rw [hU], hN.warm hW, hE.pass hS hFc hW hU, by rw [hU]; exact hPc, va_K.moved hW.alike hK, hDc⟩⟩ rfl rfl hl.1 rfl (lv_room (Nat.le_of_ble_eq_true rfl)) dX11_readCampLine_112 ⟨Nat.le_of_ble_eq_true rfl, Nat.le_of_ble_eq_true rfl⟩) (fun r83 u H locs hw hP hD hS => ?_)
              obtain ⟨x84, x85⟩ := u
              have hP : va_P D vwCl [(aw, .inl (cI, 2179, .inl fw)), (h, oX11 th aw ai ab ac hi re aP ta x84 en x85 de fa a5 sp av an ak ne aW aC ag aT aN aF), (aP, .inl (cB, 400, .inl ft))] H := hP
              have hD : va_D A [(aw, .inl (cI, 2179, .inl fw)), (h, oX11 th aw ai ab ac hi re aP ta x84 en x85 de fa a5 sp av an ak ne aW aC ag aT aN aF), (aP, .inl (cB, 400, .inl ft))] := hD
              obtain ⟨k86, k87, k88, k89, k90⟩ := hw
              refine va_iast hx hb hK hP hD hS 0 0 rfl rfl (rg_in (rg_lit (n := 8) (by decide)) (by decide)) dX11_readCampLine_115 (fun H locs hP hD hS => ?_)
              have hP : va_P D vwCl [(aw, .inl (cI, 2179, .inl (upd fw (8 : Int32).toNatClampNeg r83))), (h, oX11 th aw ai ab ac hi re aP ta x84 en x85 de fa a5 sp av an ak ne aW aC ag aT aN aF), (aP, .inl (cB, 400, .inl ft))] H := hP
              have hD : va_D A [(aw, .inl (cI, 2179, .inl (upd fw (8 : Int32).toNatClampNeg r83))), (h, oX11 th aw ai ab ac hi re aP ta x84 en x85 de fa a5 sp av an ak ne aW aC ag aT aN aF), (aP, .inl (cB, 400, .inl ft))] := hD
              have k92 : wW (upd fw (8 : Int32).toNatClampNeg r83) := wW_lo H_fw_W (rg_lit (n := 8) (by decide)) (by decide)
              have k93 : wB (upd fw (8 : Int32).toNatClampNeg r83) := wB_lo H_fw_B H_fw_W (rg_lit (n := 8) (by decide)) (by decide)
              have k94 : wL (upd fw (8 : Int32).toNatClampNeg r83) := wL_out H_fw_L (rg_lit (n := 8) (by decide)) (by decide)
              generalize hge : (upd fw (8 : Int32).toNatClampNeg r83) = g91 at hP hD k92 k93 k94
              clear hge
              refine lv_aload_n hx hb dX11_readCampLine_116 rfl (lv_at hl 2 rfl) ?_
              refine va_get (D := D) (ci := 10) (v := .ref aw) (C := RX11) (T := TX11) (N := 26) hx hb hts iG_X11 hown hK hP 1 rfl rfl 1 (by decide) (hts _ w5_3) (fun _ h9 => h9) rfl dX11_readCampLine_117 ?_
              refine lv_iload_n hx hb dX11_readCampLine_120 rfl (lv_at hl 0 rfl) ?_
              refine va_iald hx hb hK hP 0 0 rfl rfl (rg_in (rg_lit (n := 8) (by decide)) (by decide)) dX11_readCampLine_121 ?_
              refine lv_topi (fun x95 ex95 => ?_)
              clear ex95
              refine lv_if_lt (tgt := 129) hx hb dX11_readCampLine_122 (by decide) (fun c99 => ?_) (fun c99 => ?_)
              · skip
                have k100 : Rg x95 (-2147483648) (-1) := rg_l1 (ltI c99) (rg_any x95) (rg_lit (n := 0) (by decide)) (by decide)
                refine lv_iconst (v := 0) hx hb dX11_readCampLine_129 (by decide) ?_
                have hP9 := hP.sub (ws' := [(h, oX11 th aw ai ab ac hi re aP ta x84 en x85 de fa a5 sp av an ak ne aW aC ag aT aN aF), (aw, .inl (cI, 2179, .inl g91)), (aP, .inl (cB, 400, .inl ft))]) [1, 0, 2] rfl
                have hD9 := hD.sub (ws' := [(h, oX11 th aw ai ab ac hi re aP ta x84 en x85 de fa a5 sp av an ak ne aW aC ag aT aN aF), (aw, .inl (cI, 2179, .inl g91)), (aP, .inl (cB, 400, .inl ft))]) [1, 0, 2] (by decide) rfl
                exact W.zret (v := 0) hx hb hr (by decide) (fun t ht hW => ⟨⟨0, (x84, x85, g91), rfl, ⟨k86, k93, k94, k92, (Or.inl rfl)⟩, by rw [ht]; exact hP9, va_K.moved hW.alike hK, hD9⟩, hS.F ht⟩) hS.2.2 dX11_readCampLine_130
              · skip
                have k101 : Rg x95 0 2147483647 := rg_e2 (nltI c99) (rg_lit (n := 0) (by decide)) (rg_any x95) (by decide)
                refine lv_iconst (v := 1) hx hb dX11_readCampLine_125 (by decide) ?_
                refine lv_goto (tgt := 130) hx hb dX11_readCampLine_126 (by decide) ?_
                have hP9 := hP.sub (ws' := [(h, oX11 th aw ai ab ac hi re aP ta x84 en x85 de fa a5 sp av an ak ne aW aC ag aT aN aF), (aw, .inl (cI, 2179, .inl g91)), (aP, .inl (cB, 400, .inl ft))]) [1, 0, 2] rfl
                have hD9 := hD.sub (ws' := [(h, oX11 th aw ai ab ac hi re aP ta x84 en x85 de fa a5 sp av an ak ne aW aC ag aT aN aF), (aw, .inl (cI, 2179, .inl g91)), (aP, .inl (cB, 400, .inl ft))]) [1, 0, 2] (by decide) rfl
                exact W.zret (v := 1) hx hb hr (by decide) (fun t ht hW => ⟨⟨1, (x84, x85, g91), rfl, ⟨k86, k93, k94, k92, (Or.inr rfl)⟩, by rw [ht]; exact hP9, va_K.moved hW.alike hK, hD9⟩, hS.F ht⟩) hS.2.2 dX11_readCampLine_130
          · skip
            have k102 : Rg r64 1 1 := rg_n1 (neI c67) k65 (rg_lit (n := 0) (by decide)) (by decide)
            refine lv_bipush (v := 7) hx hb dX11_readCampLine_67 (by decide) ?_
            refine lv_goto (tgt := 87) hx hb dX11_readCampLine_69 (by decide) ?_
            refine lv_istore_n (lv' := [(2, .int 7), (1, .int r32), (0, .ref h)]) hx hb dX11_readCampLine_87 rfl hl (by decide) rfl (fun ls hl => ?_)
            refine lv_iload_n hx hb dX11_readCampLine_88 rfl (lv_at hl 0 rfl) ?_
            refine lv_if_ge (tgt := 94) hx hb dX11_readCampLine_89 (by decide) (fun _ => ?_) (fun c103 => absurd (by decide) c103)
            refine lv_aload_n hx hb dX11_readCampLine_94 rfl (lv_at hl 2 rfl) ?_
            refine va_get (D := D) (ci := 10) (v := .ref aw) (C := RX11) (T := TX11) (N := 26) hx hb hts iG_X11 hown hK hP 0 rfl rfl 1 (by decide) (hts _ w5_3) (fun _ h9 => h9) rfl dX11_readCampLine_95 ?_
            refine lv_iload_n hx hb dX11_readCampLine_98 rfl (lv_at hl 0 rfl) ?_
            refine lv_aload_n hx hb dX11_readCampLine_99 rfl (lv_at hl 2 rfl) ?_
            refine lv_iconst (v := 0) hx hb dX11_readCampLine_100 (by decide) ?_
            refine lv_iload_n hx hb dX11_readCampLine_101 rfl (lv_at hl 1 rfl) ?_
            refine lv_if_eq (tgt := 110) hx hb dX11_readCampLine_102 (by decide) (fun _ => ?_) (fun c105 => absurd (rg_eq k59 (rg_lit (n := 0) (by decide)) (by decide)) c105)
            refine lv_bipush (v := 100) hx hb dX11_readCampLine_110 (by decide) ?_
            refine kcalli (wc := [(h, oX11 th aw ai ab ac hi re aP ta po en be de fa a5 sp av an ak ne aW aC ag aT aN aF), (aP, .inl (cB, 400, .inl ft))]) (wr := [(aw, .inl (cI, 2179, .inl fw))]) hP hD hS hA [0, 2] [1] rfl rfl (by decide) (by decide) (by decide) (fun hPc hDc hFc => va_runV (As := [.int 0, .int 100]) (rest := [.int 7, .ref aw]) ⟨hx, hb, hml, hown, hts⟩ (r_number_set l D cI cJ cB cC h th aw ai ab ac hi re aP ta po en be de fa a5 sp av an ak ne aW aC ag aT aN aF ft 100 H.size H_po H_en (rg_w (rg_lit (n := 100) (by decide)) (by decide))) (cwV 2 hts gX11_readCampLine_X11_number rfl rfl rfl ⟨rfl, hdX11_number⟩ ⟨Nat.le_of_ble_eq_true rfl, Nat.le_of_ble_eq_true rfl⟩) ⟨kBlind, va_recv hK hPc (ci := 10) (q0 := 0) rfl rfl, fun U hU hW => ⟨rfl, by rw [hU], hN.warm hW, hE.pass hS hFc hW hU, by rw [hU]; exact hPc, va_K.moved hW.alike hK, hDc⟩⟩ rfl rfl hl.1 rfl (lv_room (Nat.le_of_ble_eq_true rfl)) dX11_readCampLine_112 ⟨Nat.le_of_ble_eq_true rfl, Nat.le_of_ble_eq_true rfl⟩) (fun r106 u H locs hw hP hD hS => ?_)
            obtain ⟨x107, x108⟩ := u
            have hP : va_P D vwCl [(aw, .inl (cI, 2179, .inl fw)), (h, oX11 th aw ai ab ac hi re aP ta x107 en x108 de fa a5 sp av an ak ne aW aC ag aT aN aF), (aP, .inl (cB, 400, .inl ft))] H := hP
            have hD : va_D A [(aw, .inl (cI, 2179, .inl fw)), (h, oX11 th aw ai ab ac hi re aP ta x107 en x108 de fa a5 sp av an ak ne aW aC ag aT aN aF), (aP, .inl (cB, 400, .inl ft))] := hD
            obtain ⟨k109, k110, k111, k112, k113⟩ := hw
            refine va_iast hx hb hK hP hD hS 0 0 rfl rfl (rg_in (rg_lit (n := 7) (by decide)) (by decide)) dX11_readCampLine_115 (fun H locs hP hD hS => ?_)
            have hP : va_P D vwCl [(aw, .inl (cI, 2179, .inl (upd fw (7 : Int32).toNatClampNeg r106))), (h, oX11 th aw ai ab ac hi re aP ta x107 en x108 de fa a5 sp av an ak ne aW aC ag aT aN aF), (aP, .inl (cB, 400, .inl ft))] H := hP
            have hD : va_D A [(aw, .inl (cI, 2179, .inl (upd fw (7 : Int32).toNatClampNeg r106))), (h, oX11 th aw ai ab ac hi re aP ta x107 en x108 de fa a5 sp av an ak ne aW aC ag aT aN aF), (aP, .inl (cB, 400, .inl ft))] := hD
            have k115 : wW (upd fw (7 : Int32).toNatClampNeg r106) := wW_lo H_fw_W (rg_lit (n := 7) (by decide)) (by decide)
            have k116 : wB (upd fw (7 : Int32).toNatClampNeg r106) := wB_lo H_fw_B H_fw_W (rg_lit (n := 7) (by decide)) (by decide)
            have k117 : wL (upd fw (7 : Int32).toNatClampNeg r106) := wL_out H_fw_L (rg_lit (n := 7) (by decide)) (by decide)
            generalize hge : (upd fw (7 : Int32).toNatClampNeg r106) = g114 at hP hD k115 k116 k117
            clear hge
            refine lv_aload_n hx hb dX11_readCampLine_116 rfl (lv_at hl 2 rfl) ?_
            refine va_get (D := D) (ci := 10) (v := .ref aw) (C := RX11) (T := TX11) (N := 26) hx hb hts iG_X11 hown hK hP 1 rfl rfl 1 (by decide) (hts _ w5_3) (fun _ h9 => h9) rfl dX11_readCampLine_117 ?_
            refine lv_iload_n hx hb dX11_readCampLine_120 rfl (lv_at hl 0 rfl) ?_
            refine va_iald hx hb hK hP 0 0 rfl rfl (rg_in (rg_lit (n := 7) (by decide)) (by decide)) dX11_readCampLine_121 ?_
            refine lv_topi (fun x118 ex118 => ?_)
            clear ex118
            refine lv_if_lt (tgt := 129) hx hb dX11_readCampLine_122 (by decide) (fun c122 => ?_) (fun c122 => ?_)
            · skip
              have k123 : Rg x118 (-2147483648) (-1) := rg_l1 (ltI c122) (rg_any x118) (rg_lit (n := 0) (by decide)) (by decide)
              refine lv_iconst (v := 0) hx hb dX11_readCampLine_129 (by decide) ?_
              have hP9 := hP.sub (ws' := [(h, oX11 th aw ai ab ac hi re aP ta x107 en x108 de fa a5 sp av an ak ne aW aC ag aT aN aF), (aw, .inl (cI, 2179, .inl g114)), (aP, .inl (cB, 400, .inl ft))]) [1, 0, 2] rfl
              have hD9 := hD.sub (ws' := [(h, oX11 th aw ai ab ac hi re aP ta x107 en x108 de fa a5 sp av an ak ne aW aC ag aT aN aF), (aw, .inl (cI, 2179, .inl g114)), (aP, .inl (cB, 400, .inl ft))]) [1, 0, 2] (by decide) rfl
              exact W.zret (v := 0) hx hb hr (by decide) (fun t ht hW => ⟨⟨0, (x107, x108, g114), rfl, ⟨k109, k116, k117, k115, (Or.inl rfl)⟩, by rw [ht]; exact hP9, va_K.moved hW.alike hK, hD9⟩, hS.F ht⟩) hS.2.2 dX11_readCampLine_130
            · skip
              have k124 : Rg x118 0 2147483647 := rg_e2 (nltI c122) (rg_lit (n := 0) (by decide)) (rg_any x118) (by decide)
              refine lv_iconst (v := 1) hx hb dX11_readCampLine_125 (by decide) ?_
              refine lv_goto (tgt := 130) hx hb dX11_readCampLine_126 (by decide) ?_
              have hP9 := hP.sub (ws' := [(h, oX11 th aw ai ab ac hi re aP ta x107 en x108 de fa a5 sp av an ak ne aW aC ag aT aN aF), (aw, .inl (cI, 2179, .inl g114)), (aP, .inl (cB, 400, .inl ft))]) [1, 0, 2] rfl
              have hD9 := hD.sub (ws' := [(h, oX11 th aw ai ab ac hi re aP ta x107 en x108 de fa a5 sp av an ak ne aW aC ag aT aN aF), (aw, .inl (cI, 2179, .inl g114)), (aP, .inl (cB, 400, .inl ft))]) [1, 0, 2] (by decide) rfl
              exact W.zret (v := 1) hx hb hr (by decide) (fun t ht hW => ⟨⟨1, (x107, x108, g114), rfl, ⟨k109, k116, k117, k115, (Or.inr rfl)⟩, by rw [ht]; exact hP9, va_K.moved hW.alike hK, hD9⟩, hS.F ht⟩) hS.2.2 dX11_readCampLine_130
        · skip
          have k125 : Rg r32 1 1 := rg_n1 (neI c58) k33 (rg_lit (n := 0) (by decide)) (by decide)
          refine lv_bipush (v := 6) hx hb dX11_readCampLine_53 (by decide) ?_
          refine lv_goto (tgt := 87) hx hb dX11_readCampLine_55 (by decide) ?_
          refine lv_istore_n (lv' := [(2, .int 6), (1, .int r32), (0, .ref h)]) hx hb dX11_readCampLine_87 rfl hl (by decide) rfl (fun ls hl => ?_)
          refine lv_iload_n hx hb dX11_readCampLine_88 rfl (lv_at hl 0 rfl) ?_
          refine lv_if_ge (tgt := 94) hx hb dX11_readCampLine_89 (by decide) (fun _ => ?_) (fun c126 => absurd (by decide) c126)
          refine lv_aload_n hx hb dX11_readCampLine_94 rfl (lv_at hl 2 rfl) ?_
          refine va_get (D := D) (ci := 10) (v := .ref aw) (C := RX11) (T := TX11) (N := 26) hx hb hts iG_X11 hown hK hP 0 rfl rfl 1 (by decide) (hts _ w5_3) (fun _ h9 => h9) rfl dX11_readCampLine_95 ?_
          refine lv_iload_n hx hb dX11_readCampLine_98 rfl (lv_at hl 0 rfl) ?_
          refine lv_aload_n hx hb dX11_readCampLine_99 rfl (lv_at hl 2 rfl) ?_
          refine lv_iconst (v := 0) hx hb dX11_readCampLine_100 (by decide) ?_
          refine lv_iload_n hx hb dX11_readCampLine_101 rfl (lv_at hl 1 rfl) ?_
          refine lv_if_eq (tgt := 110) hx hb dX11_readCampLine_102 (by decide) (fun c128 => absurd c128 (rg_neq k125 (rg_lit (n := 0) (by decide)) (by decide))) (fun _ => ?_)
          refine lv_bipush (v := 99) hx hb dX11_readCampLine_105 (by decide) ?_
          refine lv_goto (tgt := 112) hx hb dX11_readCampLine_107 (by decide) ?_
          refine kcalli (wc := [(h, oX11 th aw ai ab ac hi re aP ta po en be de fa a5 sp av an ak ne aW aC ag aT aN aF), (aP, .inl (cB, 400, .inl ft))]) (wr := [(aw, .inl (cI, 2179, .inl fw))]) hP hD hS hA [0, 2] [1] rfl rfl (by decide) (by decide) (by decide) (fun hPc hDc hFc => va_runV (As := [.int 0, .int 99]) (rest := [.int 6, .ref aw]) ⟨hx, hb, hml, hown, hts⟩ (r_number_99 l D cI cJ cB cC h th aw ai ab ac hi re aP ta po en be de fa a5 sp av an ak ne aW aC ag aT aN aF ft H.size H_po H_en) (cwV 2 hts gX11_readCampLine_X11_number rfl rfl rfl ⟨rfl, hdX11_number⟩ ⟨Nat.le_of_ble_eq_true rfl, Nat.le_of_ble_eq_true rfl⟩) ⟨kBlind, va_recv hK hPc (ci := 10) (q0 := 0) rfl rfl, fun U hU hW => ⟨rfl, by rw [hU], hN.warm hW, hE.pass hS hFc hW hU, by rw [hU]; exact hPc, va_K.moved hW.alike hK, hDc⟩⟩ rfl rfl hl.1 rfl (lv_room (Nat.le_of_ble_eq_true rfl)) dX11_readCampLine_112 ⟨Nat.le_of_ble_eq_true rfl, Nat.le_of_ble_eq_true rfl⟩) (fun r129 u H locs hw hP hD hS => ?_)
          obtain ⟨x130, x131⟩ := u
          have hP : va_P D vwCl [(aw, .inl (cI, 2179, .inl fw)), (h, oX11 th aw ai ab ac hi re aP ta x130 en x131 de fa a5 sp av an ak ne aW aC ag aT aN aF), (aP, .inl (cB, 400, .inl ft))] H := hP
          have hD : va_D A [(aw, .inl (cI, 2179, .inl fw)), (h, oX11 th aw ai ab ac hi re aP ta x130 en x131 de fa a5 sp av an ak ne aW aC ag aT aN aF), (aP, .inl (cB, 400, .inl ft))] := hD
          obtain ⟨k132, k133, k134, k135, k136⟩ := hw
          refine va_iast hx hb hK hP hD hS 0 0 rfl rfl (rg_in (rg_lit (n := 6) (by decide)) (by decide)) dX11_readCampLine_115 (fun H locs hP hD hS => ?_)
          have hP : va_P D vwCl [(aw, .inl (cI, 2179, .inl (upd fw (6 : Int32).toNatClampNeg r129))), (h, oX11 th aw ai ab ac hi re aP ta x130 en x131 de fa a5 sp av an ak ne aW aC ag aT aN aF), (aP, .inl (cB, 400, .inl ft))] H := hP
          have hD : va_D A [(aw, .inl (cI, 2179, .inl (upd fw (6 : Int32).toNatClampNeg r129))), (h, oX11 th aw ai ab ac hi re aP ta x130 en x131 de fa a5 sp av an ak ne aW aC ag aT aN aF), (aP, .inl (cB, 400, .inl ft))] := hD
          have k138 : wW (upd fw (6 : Int32).toNatClampNeg r129) := wW_lo H_fw_W (rg_lit (n := 6) (by decide)) (by decide)
          have k139 : wB (upd fw (6 : Int32).toNatClampNeg r129) := wB_lo H_fw_B H_fw_W (rg_lit (n := 6) (by decide)) (by decide)
          have k140 : wL (upd fw (6 : Int32).toNatClampNeg r129) := wL_out H_fw_L (rg_lit (n := 6) (by decide)) (by decide)
          generalize hge : (upd fw (6 : Int32).toNatClampNeg r129) = g137 at hP hD k138 k139 k140
          clear hge
          refine lv_aload_n hx hb dX11_readCampLine_116 rfl (lv_at hl 2 rfl) ?_
          refine va_get (D := D) (ci := 10) (v := .ref aw) (C := RX11) (T := TX11) (N := 26) hx hb hts iG_X11 hown hK hP 1 rfl rfl 1 (by decide) (hts _ w5_3) (fun _ h9 => h9) rfl dX11_readCampLine_117 ?_
          refine lv_iload_n hx hb dX11_readCampLine_120 rfl (lv_at hl 0 rfl) ?_
          refine va_iald hx hb hK hP 0 0 rfl rfl (rg_in (rg_lit (n := 6) (by decide)) (by decide)) dX11_readCampLine_121 ?_
          refine lv_topi (fun x141 ex141 => ?_)
          clear ex141
          refine lv_if_lt (tgt := 129) hx hb dX11_readCampLine_122 (by decide) (fun c145 => ?_) (fun c145 => ?_)
          · skip
            have k146 : Rg x141 (-2147483648) (-1) := rg_l1 (ltI c145) (rg_any x141) (rg_lit (n := 0) (by decide)) (by decide)
            refine lv_iconst (v := 0) hx hb dX11_readCampLine_129 (by decide) ?_
            have hP9 := hP.sub (ws' := [(h, oX11 th aw ai ab ac hi re aP ta x130 en x131 de fa a5 sp av an ak ne aW aC ag aT aN aF), (aw, .inl (cI, 2179, .inl g137)), (aP, .inl (cB, 400, .inl ft))]) [1, 0, 2] rfl
            have hD9 := hD.sub (ws' := [(h, oX11 th aw ai ab ac hi re aP ta x130 en x131 de fa a5 sp av an ak ne aW aC ag aT aN aF), (aw, .inl (cI, 2179, .inl g137)), (aP, .inl (cB, 400, .inl ft))]) [1, 0, 2] (by decide) rfl
            exact W.zret (v := 0) hx hb hr (by decide) (fun t ht hW => ⟨⟨0, (x130, x131, g137), rfl, ⟨k132, k139, k140, k138, (Or.inl rfl)⟩, by rw [ht]; exact hP9, va_K.moved hW.alike hK, hD9⟩, hS.F ht⟩) hS.2.2 dX11_readCampLine_130
          · skip
            have k147 : Rg x141 0 2147483647 := rg_e2 (nltI c145) (rg_lit (n := 0) (by decide)) (rg_any x141) (by decide)
            refine lv_iconst (v := 1) hx hb dX11_readCampLine_125 (by decide) ?_
            refine lv_goto (tgt := 130) hx hb dX11_readCampLine_126 (by decide) ?_
            have hP9 := hP.sub (ws' := [(h, oX11 th aw ai ab ac hi re aP ta x130 en x131 de fa a5 sp av an ak ne aW aC ag aT aN aF), (aw, .inl (cI, 2179, .inl g137)), (aP, .inl (cB, 400, .inl ft))]) [1, 0, 2] rfl
            have hD9 := hD.sub (ws' := [(h, oX11 th aw ai ab ac hi re aP ta x130 en x131 de fa a5 sp av an ak ne aW aC ag aT aN aF), (aw, .inl (cI, 2179, .inl g137)), (aP, .inl (cB, 400, .inl ft))]) [1, 0, 2] (by decide) rfl
            exact W.zret (v := 1) hx hb hr (by decide) (fun t ht hW => ⟨⟨1, (x130, x131, g137), rfl, ⟨k132, k139, k140, k138, (Or.inr rfl)⟩, by rw [ht]; exact hP9, va_K.moved hW.alike hK, hD9⟩, hS.F ht⟩) hS.2.2 dX11_readCampLine_130
      · skip
        have k148 : Rg r23 1 1 := rg_n1 (neI c26) k24 (rg_lit (n := 0) (by decide)) (by decide)
        refine lv_aload_n hx hb dX11_readCampLine_37 rfl (lv_at hl 0 rfl) ?_
        refine kcalli (wc := [(h, oX11 th aw ai ab ac hi re aP ta po en be de fa a5 sp av an ak ne aW aC ag aT aN aF), (aw, .inl (cI, 2179, .inl fw)), (aP, .inl (cB, 400, .inl ft))]) (wr := []) hP hD hS hA [0, 1, 2] [] rfl rfl (by decide) (by decide) (by decide) (fun hPc hDc hFc => va_runV (As := []) (rest := []) ⟨hx, hb, hml, hown, hts⟩ (r_readWears l D cI cJ cB cC h th aw ai ab ac hi re aP ta po en be de fa a5 sp av an ak ne aW aC ag aT aN aF fw ft H.size H_po H_en H_fw_W H_fw_B H_fw_L) (cwV 0 hts gX11_readCampLine_X11_readWears rfl rfl rfl ⟨rfl, hdX11_readWears⟩ ⟨Nat.le_of_ble_eq_true rfl, Nat.le_of_ble_eq_true rfl⟩) ⟨kBlind, va_recv hK hPc (ci := 10) (q0 := 0) rfl rfl, fun U hU hW => ⟨rfl, by rw [hU], hN.warm hW, hE.pass hS hFc hW hU, by rw [hU]; exact hPc, va_K.moved hW.alike hK, hDc⟩⟩ rfl rfl hl.1 rfl (lv_room (Nat.le_of_ble_eq_true rfl)) dX11_readCampLine_38 ⟨Nat.le_of_ble_eq_true rfl, Nat.le_of_ble_eq_true rfl⟩) (fun r149 u H locs hw hP hD hS => ?_)
        obtain ⟨x150, x151, g152⟩ := u
        have hP : va_P D vwCl [(h, oX11 th aw ai ab ac hi re aP ta x150 en x151 de fa a5 sp av an ak ne aW aC ag aT aN aF), (aw, .inl (cI, 2179, .inl g152)), (aP, .inl (cB, 400, .inl ft))] H := hP
        have hD : va_D A [(h, oX11 th aw ai ab ac hi re aP ta x150 en x151 de fa a5 sp av an ak ne aW aC ag aT aN aF), (aw, .inl (cI, 2179, .inl g152)), (aP, .inl (cB, 400, .inl ft))] := hD
        obtain ⟨k153, k154, k155, k156, k157, hw⟩ := hw
        rcases hw with rfl | rfl
        · skip
          have hP9 := hP.sub (ws' := [(h, oX11 th aw ai ab ac hi re aP ta x150 en x151 de fa a5 sp av an ak ne aW aC ag aT aN aF), (aw, .inl (cI, 2179, .inl g152)), (aP, .inl (cB, 400, .inl ft))]) [0, 1, 2] rfl
          have hD9 := hD.sub (ws' := [(h, oX11 th aw ai ab ac hi re aP ta x150 en x151 de fa a5 sp av an ak ne aW aC ag aT aN aF), (aw, .inl (cI, 2179, .inl g152)), (aP, .inl (cB, 400, .inl ft))]) [0, 1, 2] (by decide) rfl
          exact W.zret (v := 0) hx hb hr (by decide) (fun t ht hW => ⟨⟨0, (x150, x151, g152), rfl, ⟨k153, k155, k156, k157, (Or.inl rfl)⟩, by rw [ht]; exact hP9, va_K.moved hW.alike hK, hD9⟩, hS.F ht⟩) hS.2.2 dX11_readCampLine_41
        · skip
          have hP9 := hP.sub (ws' := [(h, oX11 th aw ai ab ac hi re aP ta x150 en x151 de fa a5 sp av an ak ne aW aC ag aT aN aF), (aw, .inl (cI, 2179, .inl g152)), (aP, .inl (cB, 400, .inl ft))]) [0, 1, 2] rfl
          have hD9 := hD.sub (ws' := [(h, oX11 th aw ai ab ac hi re aP ta x150 en x151 de fa a5 sp av an ak ne aW aC ag aT aN aF), (aw, .inl (cI, 2179, .inl g152)), (aP, .inl (cB, 400, .inl ft))]) [0, 1, 2] (by decide) rfl
          exact W.zret (v := 1) hx hb hr (by decide) (fun t ht hW => ⟨⟨1, (x150, x151, g152), rfl, ⟨k153, k155, k156, k157, (Or.inr rfl)⟩, by rw [ht]; exact hP9, va_K.moved hW.alike hK, hD9⟩, hS.F ht⟩) hS.2.2 dX11_readCampLine_41
    · skip
      have k159 : Rg r14 1 1 := rg_n1 (neI c17) k15 (rg_lit (n := 0) (by decide)) (by decide)
      refine lv_aload_n hx hb dX11_readCampLine_23 rfl (lv_at hl 0 rfl) ?_
      refine kcalli (wc := [(h, oX11 th aw ai ab ac hi re aP ta po en be de fa a5 sp av an ak ne aW aC ag aT aN aF), (aw, .inl (cI, 2179, .inl fw)), (aP, .inl (cB, 400, .inl ft))]) (wr := []) hP hD hS hA [0, 1, 2] [] rfl rfl (by decide) (by decide) (by decide) (fun hPc hDc hFc => va_runV (As := []) (rest := []) ⟨hx, hb, hml, hown, hts⟩ (r_readShirt l D cI cJ cB cC h th aw ai ab ac hi re aP ta po en be de fa a5 sp av an ak ne aW aC ag aT aN aF fw ft H.size H_po H_en H_fw_W H_fw_B H_fw_L) (cwV 0 hts gX11_readCampLine_X11_readShirt rfl rfl rfl ⟨rfl, hdX11_readShirt⟩ ⟨Nat.le_of_ble_eq_true rfl, Nat.le_of_ble_eq_true rfl⟩) ⟨kBlind, va_recv hK hPc (ci := 10) (q0 := 0) rfl rfl, fun U hU hW => ⟨rfl, by rw [hU], hN.warm hW, hE.pass hS hFc hW hU, by rw [hU]; exact hPc, va_K.moved hW.alike hK, hDc⟩⟩ rfl rfl hl.1 rfl (lv_room (Nat.le_of_ble_eq_true rfl)) dX11_readCampLine_24 ⟨Nat.le_of_ble_eq_true rfl, Nat.le_of_ble_eq_true rfl⟩) (fun r160 u H locs hw hP hD hS => ?_)
      obtain ⟨x161, x162, g163⟩ := u
      have hP : va_P D vwCl [(h, oX11 th aw ai ab ac hi re aP ta x161 en x162 de fa a5 sp av an ak ne aW aC ag aT aN aF), (aw, .inl (cI, 2179, .inl g163)), (aP, .inl (cB, 400, .inl ft))] H := hP
      have hD : va_D A [(h, oX11 th aw ai ab ac hi re aP ta x161 en x162 de fa a5 sp av an ak ne aW aC ag aT aN aF), (aw, .inl (cI, 2179, .inl g163)), (aP, .inl (cB, 400, .inl ft))] := hD
      obtain ⟨k164, k165, k166, k167, hw⟩ := hw
      rcases hw with rfl | rfl
      · skip
        have hP9 := hP.sub (ws' := [(h, oX11 th aw ai ab ac hi re aP ta x161 en x162 de fa a5 sp av an ak ne aW aC ag aT aN aF), (aw, .inl (cI, 2179, .inl g163)), (aP, .inl (cB, 400, .inl ft))]) [0, 1, 2] rfl
        have hD9 := hD.sub (ws' := [(h, oX11 th aw ai ab ac hi re aP ta x161 en x162 de fa a5 sp av an ak ne aW aC ag aT aN aF), (aw, .inl (cI, 2179, .inl g163)), (aP, .inl (cB, 400, .inl ft))]) [0, 1, 2] (by decide) rfl
        exact W.zret (v := 0) hx hb hr (by decide) (fun t ht hW => ⟨⟨0, (x161, x162, g163), rfl, ⟨k164, k165, k166, k167, (Or.inl rfl)⟩, by rw [ht]; exact hP9, va_K.moved hW.alike hK, hD9⟩, hS.F ht⟩) hS.2.2 dX11_readCampLine_27
      · skip
        have hP9 := hP.sub (ws' := [(h, oX11 th aw ai ab ac hi re aP ta x161 en x162 de fa a5 sp av an ak ne aW aC ag aT aN aF), (aw, .inl (cI, 2179, .inl g163)), (aP, .inl (cB, 400, .inl ft))]) [0, 1, 2] rfl
        have hD9 := hD.sub (ws' := [(h, oX11 th aw ai ab ac hi re aP ta x161 en x162 de fa a5 sp av an ak ne aW aC ag aT aN aF), (aw, .inl (cI, 2179, .inl g163)), (aP, .inl (cB, 400, .inl ft))]) [0, 1, 2] (by decide) rfl
        exact W.zret (v := 1) hx hb hr (by decide) (fun t ht hW => ⟨⟨1, (x161, x162, g163), rfl, ⟨k164, k165, k166, k167, (Or.inr rfl)⟩, by rw [ht]; exact hP9, va_K.moved hW.alike hK, hD9⟩, hS.F ht⟩) hS.2.2 dX11_readCampLine_27
  · skip
    have k169 : Rg r5 1 1 := rg_n1 (neI c8) k6 (rg_lit (n := 0) (by decide)) (by decide)
    refine lv_aload_n hx hb dX11_readCampLine_9 rfl (lv_at hl 0 rfl) ?_
    refine kcalli (wc := [(h, oX11 th aw ai ab ac hi re aP ta po en be de fa a5 sp av an ak ne aW aC ag aT aN aF), (aw, .inl (cI, 2179, .inl fw)), (aP, .inl (cB, 400, .inl ft))]) (wr := []) hP hD hS hA [0, 1, 2] [] rfl rfl (by decide) (by decide) (by decide) (fun hPc hDc hFc => va_runV (As := []) (rest := []) ⟨hx, hb, hml, hown, hts⟩ (r_readMan l D cI cJ cB cC h th aw ai ab ac hi re aP ta po en be de fa a5 sp av an ak ne aW aC ag aT aN aF fw ft H.size H_po H_en H_fw_W H_fw_B H_fw_L) (cwV 0 hts gX11_readCampLine_X11_readMan rfl rfl rfl ⟨rfl, hdX11_readMan⟩ ⟨Nat.le_of_ble_eq_true rfl, Nat.le_of_ble_eq_true rfl⟩) ⟨kBlind, va_recv hK hPc (ci := 10) (q0 := 0) rfl rfl, fun U hU hW => ⟨rfl, by rw [hU], hN.warm hW, hE.pass hS hFc hW hU, by rw [hU]; exact hPc, va_K.moved hW.alike hK, hDc⟩⟩ rfl rfl hl.1 rfl (lv_room (Nat.le_of_ble_eq_true rfl)) dX11_readCampLine_10 ⟨Nat.le_of_ble_eq_true rfl, Nat.le_of_ble_eq_true rfl⟩) (fun r170 u H locs hw hP hD hS => ?_)
    obtain ⟨x171, x172, g173⟩ := u
    have hP : va_P D vwCl [(h, oX11 th aw ai ab ac hi re aP ta x171 en x172 de fa a5 sp av an ak ne aW aC ag aT aN aF), (aw, .inl (cI, 2179, .inl g173)), (aP, .inl (cB, 400, .inl ft))] H := hP
    have hD : va_D A [(h, oX11 th aw ai ab ac hi re aP ta x171 en x172 de fa a5 sp av an ak ne aW aC ag aT aN aF), (aw, .inl (cI, 2179, .inl g173)), (aP, .inl (cB, 400, .inl ft))] := hD
    obtain ⟨k174, k175, k176, k177, hw⟩ := hw
    rcases hw with rfl | rfl
    · skip
      have hP9 := hP.sub (ws' := [(h, oX11 th aw ai ab ac hi re aP ta x171 en x172 de fa a5 sp av an ak ne aW aC ag aT aN aF), (aw, .inl (cI, 2179, .inl g173)), (aP, .inl (cB, 400, .inl ft))]) [0, 1, 2] rfl
      have hD9 := hD.sub (ws' := [(h, oX11 th aw ai ab ac hi re aP ta x171 en x172 de fa a5 sp av an ak ne aW aC ag aT aN aF), (aw, .inl (cI, 2179, .inl g173)), (aP, .inl (cB, 400, .inl ft))]) [0, 1, 2] (by decide) rfl
      exact W.zret (v := 0) hx hb hr (by decide) (fun t ht hW => ⟨⟨0, (x171, x172, g173), rfl, ⟨k174, k175, k176, k177, (Or.inl rfl)⟩, by rw [ht]; exact hP9, va_K.moved hW.alike hK, hD9⟩, hS.F ht⟩) hS.2.2 dX11_readCampLine_13
    · skip
      have hP9 := hP.sub (ws' := [(h, oX11 th aw ai ab ac hi re aP ta x171 en x172 de fa a5 sp av an ak ne aW aC ag aT aN aF), (aw, .inl (cI, 2179, .inl g173)), (aP, .inl (cB, 400, .inl ft))]) [0, 1, 2] rfl
      have hD9 := hD.sub (ws' := [(h, oX11 th aw ai ab ac hi re aP ta x171 en x172 de fa a5 sp av an ak ne aW aC ag aT aN aF), (aw, .inl (cI, 2179, .inl g173)), (aP, .inl (cB, 400, .inl ft))]) [0, 1, 2] (by decide) rfl
      exact W.zret (v := 1) hx hb hr (by decide) (fun t ht hW => ⟨⟨1, (x171, x172, g173), rfl, ⟨k174, k175, k176, k177, (Or.inr rfl)⟩, by rw [ht]; exact hP9, va_K.moved hW.alike hK, hD9⟩, hS.F ht⟩) hS.2.2 dX11_readCampLine_13

theorem gX11_readLine_X11_readCampLine : GoodIn kG (wsV RX11 241 RX11 yX11_readCampLine kwX11_readCampLine) := gK w19_3 (gK w19_4 (gK w19_5 (gK w0_5 (gK w19_6 gGG))))
theorem dX11_readLine_9 : decode cX11_readLine 9 = .ok (.bipush 14, 2) := by decide +kernel
theorem dX11_readLine_11 : decode cX11_readLine 11 = .ok (.goto 5, 3) := by decide +kernel
theorem dX11_readLine_23 : decode cX11_readLine 23 = .ok (.aload_n 0, 1) := by decide +kernel
theorem dX11_readLine_24 : decode cX11_readLine 24 = .ok (.invokevirtual 241, 3) := by decide +kernel
theorem dX11_readLine_27 : decode cX11_readLine 27 = .ok (.ifCond .eq 18, 3) := by decide +kernel
theorem dX11_readLine_30 : decode cX11_readLine 30 = .ok (.goto 11, 3) := by decide +kernel
set_option maxHeartbeats 4000000 in
set_option maxRecDepth 100000 in
/-- reference: readLine -/
theorem r_readLine1 (l : Launch) (D : va_G) (cI cJ cB cC : ClassId) (h : Nat) (th : Int32) (aw : Nat) (ai : Nat) (ab : Nat) (ac : Nat) (hi : Int32) (re : Int32) (aP : Nat) (ta : Int32) (po : Int32) (en : Int32) (be : Int32) (de : Int32) (fa : Int32) (a5 : Nat) (sp : Int32) (av : Nat) (an : Nat) (ak : Nat) (ne : Int32) (aW : Nat) (aC : Nat) (ag : Nat) (aT : Nat) (aN : Nat) (aF : Nat) (fw : Nat → Int32) (ft : Nat → Int32) (n : Int32) (sz : Nat) (H_po : Rg po 0 400) (H_en : Rg en 0 400) (H_n : Rg n 0 65535) (H_fw_W : wW fw) (H_fw_B : wB fw) (H_fw_L : wL fw) : Met l yX11_readLine kwX11_readLine ({ frames := 8, cells := 0, slots := 0, locals := 178 } : Room) (kPre D (kT cI cJ cB cC) sz [(h, oX11 th aw ai ab ac hi re aP ta po en be de fa a5 sp av an ak ne aW aC ag aT aN aF), (aw, .inl (cI, 2179, .inl fw)), (aP, .inl (cB, 400, .inl ft))] [.ref h, .int 1, .int n]) (va_Qi (fun (r : Int32) (uu : Int32 × Int32 × (Nat → Int32)) => match uu with | (n0_, n1_, f2_) => Rg n0_ 0 400 ∧ wB f2_ ∧ wL f2_ ∧ wW f2_ ∧ ((r = 0) ∨ (r = 1 ∧ Rg n 0 13))) (fun (uu : Int32 × Int32 × (Nat → Int32)) (t : State) => match uu with | (n0_, n1_, f2_) => kB D (kT cI cJ cB cC) (va_A [(h, oX11 th aw ai ab ac hi re aP ta po en be de fa a5 sp av an ak ne aW aC ag aT aN aF), (aw, .inl (cI, 2179, .inl fw)), (aP, .inl (cB, 400, .inl ft))] sz) [(h, oX11 th aw ai ab ac hi re aP ta n0_ en n1_ de fa a5 sp av an ak ne aW aC ag aT aN aF), (aw, .inl (cI, 2179, .inl f2_)), (aP, .inl (cB, 400, .inl ft))] t) (va_A [(h, oX11 th aw ai ab ac hi re aP ta po en be de fa a5 sp av an ak ne aW aC ag aT aN aF), (aw, .inl (cI, 2179, .inl fw)), (aP, .inl (cB, 400, .inl ft))] sz)) 0 0 (va_A [(h, oX11 th aw ai ab ac hi re aP ta po en be de fa a5 sp av an ak ne aW aC ag aT aN aF), (aw, .inl (cI, 2179, .inl fw)), (aP, .inl (cB, 400, .inl ft))] sz) := by
  refine Met.ofW (cc := cX11_readLine) (maxL := 3) (ret := (some .boolean)) (by decide) rfl ?_
  intro p e s m args below meth c s₁ B hml hv
  obtain ⟨rfl, hsz, hN, hE, hP, hK, hD0⟩ := hv
  have hx := B.exec
  have hb := B.bytes
  have hr := B.returns
  have hts := fun (w : Cond) (h : w ∈ kG) => atoms_spec (ws := kwX11_readLine) B.pre w (List.mem_cons_of_mem _ h)
  have hown : s.vm.findClass RX11 = some m.cls := findClass_of_methodNamed B.named
  subst hsz
  have hD := hD0.self (sz := s.heap.size)
  generalize hAe : va_A [(h, oX11 th aw ai ab ac hi re aP ta po en be de fa a5 sp av an ak ne aW aC ag aT aN aF), (aw, .inl (cI, 2179, .inl fw)), (aP, .inl (cB, 400, .inl ft))] s.heap.size = A at hD hE ⊢
  have hA : ∀ q : Nat, s.heap.size ≤ q → A q := fun q h => by rw [← hAe]; exact Or.inr h
  have hl := lv_entry ([.ref h, .int 1, .int n]) (n := 3) (Nat.le_of_ble_eq_true rfl)
  rw [lg_entry_eq]
  generalize (lg_sl ([.ref h, .int 1, .int n]) ++ List.replicate (3 - (lg_sl ([.ref h, .int 1, .int n])).length) Slot.unset).toArray = ls at hl ⊢
  have hl : lv_has ls 3 [(0, .ref h), (1, .int 1), (2, .int n)] := hl
  obtain ⟨H, hH0⟩ : ∃ H, H = s.heap := ⟨_, rfl⟩
  have hS : va_S A s.heap H [] := by rw [hH0]; exact va_S.rf
  have hP : va_P D vwCl [(h, oX11 th aw ai ab ac hi re aP ta po en be de fa a5 sp av an ak ne aW aC ag aT aN aF), (aw, .inl (cI, 2179, .inl fw)), (aP, .inl (cB, 400, .inl ft))] H := by rw [hH0]; exact hP
  refine kHeap hH0 ?_
  clear hH0
  refine lv_aload_n hx hb dX11_readLine_0 rfl (lv_at hl 0 rfl) ?_
  refine kcallv (wc := [(h, oX11 th aw ai ab ac hi re aP ta po en be de fa a5 sp av an ak ne aW aC ag aT aN aF), (aP, .inl (cB, 400, .inl ft))]) (wr := [(aw, .inl (cI, 2179, .inl fw))]) hP hD hS hA [0, 2] [1] rfl rfl (by decide) (by decide) (by decide) (fun hPc hDc hFc => va_runV (As := []) (rest := []) ⟨hx, hb, hml, hown, hts⟩ (r_letters l D cI cJ cB cC h th aw ai ab ac hi re aP ta po en be de fa a5 sp av an ak ne aW aC ag aT aN aF ft H.size H_po H_en) (cwV 0 hts gX11_readLine_X11_letters rfl rfl rfl ⟨rfl, hdX11_letters⟩ ⟨Nat.le_of_ble_eq_true rfl, Nat.le_of_ble_eq_true rfl⟩) ⟨kBlind, va_recv hK hPc (ci := 10) (q0 := 0) rfl rfl, fun U hU hW => ⟨rfl, by rw [hU], hN.warm hW, hE.pass hS hFc hW hU, by rw [hU]; exact hPc, va_K.moved hW.alike hK, hDc⟩⟩ rfl rfl hl.1 rfl (lv_room (Nat.le_of_ble_eq_true rfl)) dX11_readLine_1 ⟨Nat.le_of_ble_eq_true rfl, Nat.le_of_ble_eq_true rfl⟩) (fun u H locs hw hP hD hS => ?_)
  obtain ⟨x1, x2⟩ := u
  have hP : va_P D vwCl [(aw, .inl (cI, 2179, .inl fw)), (h, oX11 th aw ai ab ac hi re aP ta x1 en x2 de fa a5 sp av an ak ne aW aC ag aT aN aF), (aP, .inl (cB, 400, .inl ft))] H := hP
  have hD : va_D A [(aw, .inl (cI, 2179, .inl fw)), (h, oX11 th aw ai ab ac hi re aP ta x1 en x2 de fa a5 sp av an ak ne aW aC ag aT aN aF), (aP, .inl (cB, 400, .inl ft))] := hD
  obtain ⟨k3, k4, k5, k6⟩ := hw
  refine lv_iload_n hx hb dX11_readLine_4 rfl (lv_at hl 2 rfl) ?_
  refine lv_iload_n hx hb dX11_readLine_5 rfl (lv_at hl 1 rfl) ?_
  refine lv_if_eq (tgt := 14) hx hb dX11_readLine_6 (by decide) (fun c8 => absurd c8 (by decide)) (fun _ => ?_)
  refine lv_bipush (v := 14) hx hb dX11_readLine_9 (by decide) ?_
  refine lv_goto (tgt := 16) hx hb dX11_readLine_11 (by decide) ?_
  refine k_join (hd := 45) (cells2 := 0) (slots2 := 0) (fun (u : (Nat → Int32) × Int32 × Int32) => match u with | (g27, y28, y29) => []) (fun (u : (Nat → Int32) × Int32 × Int32) (H : Heap) (locs : List Loc) (ls : Array Slot) => match u with | (g27, y28, y29) => wB g27 ∧ wL g27 ∧ wW g27 ∧ Rg y28 0 400 ∧ va_P D vwCl [(aw, .inl (cI, 2179, .inl g27)), (h, oX11 th aw ai ab ac hi re aP ta y28 en y29 de fa a5 sp av an ak ne aW aC ag aT aN aF), (aP, .inl (cB, 400, .inl ft))] H ∧ va_D A [(aw, .inl (cI, 2179, .inl g27)), (h, oX11 th aw ai ab ac hi re aP ta y28 en y29 de fa a5 sp av an ak ne aW aC ag aT aN aF), (aP, .inl (cB, 400, .inl ft))] ∧ va_S A s.heap H locs ∧ lv_has ls 3 [(0, .ref h), (1, .int 1), (2, .int n)]) (fun u H locs ls hI => ?_) (fun hJ45 => ?_)
  · skip
    clear hP hD hS hl
    obtain ⟨g27, y28, y29⟩ := u
    obtain ⟨hg27_0, hg27_1, hg27_2, hy28, hP, hD, hS, hl⟩ := hI
    have hP : va_P D vwCl [(aw, .inl (cI, 2179, .inl g27)), (h, oX11 th aw ai ab ac hi re aP ta y28 en y29 de fa a5 sp av an ak ne aW aC ag aT aN aF), (aP, .inl (cB, 400, .inl ft))] H := hP
    have hD : va_D A [(aw, .inl (cI, 2179, .inl g27)), (h, oX11 th aw ai ab ac hi re aP ta y28 en y29 de fa a5 sp av an ak ne aW aC ag aT aN aF), (aP, .inl (cB, 400, .inl ft))] := hD
    have hl : lv_has ls 3 [(0, .ref h), (1, .int 1), (2, .int n)] := hl
    refine lv_iconst (v := 0) hx hb dX11_readLine_45 (by decide) ?_
    have hP9 := hP.sub (ws' := [(h, oX11 th aw ai ab ac hi re aP ta y28 en y29 de fa a5 sp av an ak ne aW aC ag aT aN aF), (aw, .inl (cI, 2179, .inl g27)), (aP, .inl (cB, 400, .inl ft))]) [1, 0, 2] rfl
    have hD9 := hD.sub (ws' := [(h, oX11 th aw ai ab ac hi re aP ta y28 en y29 de fa a5 sp av an ak ne aW aC ag aT aN aF), (aw, .inl (cI, 2179, .inl g27)), (aP, .inl (cB, 400, .inl ft))]) [1, 0, 2] (by decide) rfl
    exact W.zret (v := 0) hx hb hr (by decide) (fun t ht hW => ⟨⟨0, (y28, y29, g27), rfl, ⟨hy28, hg27_0, hg27_1, hg27_2, (Or.inl rfl)⟩, by rw [ht]; exact hP9, va_K.moved hW.alike hK, hD9⟩, hS.F ht⟩) hS.2.2 dX11_readLine_46
  refine lv_icmp_ge (tgt := 45) hx hb dX11_readLine_16 (by decide) (fun c30 => ?_) (fun c30 => ?_)
  · skip
    have k31 : Rg n 14 65535 := rg_e2 (leI c30) (rg_lit (n := 14) (by decide)) H_n (by decide)
    exact hJ45 (fw, x1, x2) _ _ _ ⟨H_fw_B, H_fw_L, H_fw_W, k3, hP.sub (ws' := [(aw, .inl (cI, 2179, .inl fw)), (h, oX11 th aw ai ab ac hi re aP ta x1 en x2 de fa a5 sp av an ak ne aW aC ag aT aN aF), (aP, .inl (cB, 400, .inl ft))]) [0, 1, 2] rfl, hD.sub (ws' := [(aw, .inl (cI, 2179, .inl fw)), (h, oX11 th aw ai ab ac hi re aP ta x1 en x2 de fa a5 sp av an ak ne aW aC ag aT aN aF), (aP, .inl (cB, 400, .inl ft))]) [0, 1, 2] (by decide) rfl, hS, lv_sub (l' := [(0, .ref h), (1, .int 1), (2, .int n)]) hl [0, 1, 2] rfl⟩
  · skip
    have k32 : Rg n 0 13 := rg_l1 (nleI c30) H_n (rg_lit (n := 14) (by decide)) (by decide)
    refine lv_iload_n hx hb dX11_readLine_19 rfl (lv_at hl 1 rfl) ?_
    refine lv_if_eq (tgt := 33) hx hb dX11_readLine_20 (by decide) (fun c45 => absurd c45 (by decide)) (fun _ => ?_)
    refine lv_aload_n hx hb dX11_readLine_23 rfl (lv_at hl 0 rfl) ?_
    refine kcalli (wc := [(h, oX11 th aw ai ab ac hi re aP ta x1 en x2 de fa a5 sp av an ak ne aW aC ag aT aN aF), (aw, .inl (cI, 2179, .inl fw)), (aP, .inl (cB, 400, .inl ft))]) (wr := []) hP hD hS hA [1, 0, 2] [] rfl rfl (by decide) (by decide) (by decide) (fun hPc hDc hFc => va_runV (As := []) (rest := []) ⟨hx, hb, hml, hown, hts⟩ (r_readCampLine l D cI cJ cB cC h th aw ai ab ac hi re aP ta x1 en x2 de fa a5 sp av an ak ne aW aC ag aT aN aF fw ft H.size k3 H_en k4 H_fw_W H_fw_B H_fw_L) (cwV 0 hts gX11_readLine_X11_readCampLine rfl rfl rfl ⟨rfl, hdX11_readCampLine⟩ ⟨Nat.le_of_ble_eq_true rfl, Nat.le_of_ble_eq_true rfl⟩) ⟨kBlind, va_recv hK hPc (ci := 10) (q0 := 0) rfl rfl, fun U hU hW => ⟨rfl, by rw [hU], hN.warm hW, hE.pass hS hFc hW hU, by rw [hU]; exact hPc, va_K.moved hW.alike hK, hDc⟩⟩ rfl rfl hl.1 rfl (lv_room (Nat.le_of_ble_eq_true rfl)) dX11_readLine_24 ⟨Nat.le_of_ble_eq_true rfl, Nat.le_of_ble_eq_true rfl⟩) (fun r46 u H locs hw hP hD hS => ?_)
    obtain ⟨x47, x48, g49⟩ := u
    have hP : va_P D vwCl [(h, oX11 th aw ai ab ac hi re aP ta x47 en x48 de fa a5 sp av an ak ne aW aC ag aT aN aF), (aw, .inl (cI, 2179, .inl g49)), (aP, .inl (cB, 400, .inl ft))] H := hP
    have hD : va_D A [(h, oX11 th aw ai ab ac hi re aP ta x47 en x48 de fa a5 sp av an ak ne aW aC ag aT aN aF), (aw, .inl (cI, 2179, .inl g49)), (aP, .inl (cB, 400, .inl ft))] := hD
    obtain ⟨k50, k51, k52, k53, hw⟩ := hw
    rcases hw with rfl | rfl
    · skip
      refine lv_if_eq (tgt := 45) hx hb dX11_readLine_27 (by decide) (fun _ => ?_) (fun c55 => absurd (by decide) c55)
      exact hJ45 (g49, x47, x48) _ _ _ ⟨k51, k52, k53, k50, hP.sub (ws' := [(aw, .inl (cI, 2179, .inl g49)), (h, oX11 th aw ai ab ac hi re aP ta x47 en x48 de fa a5 sp av an ak ne aW aC ag aT aN aF), (aP, .inl (cB, 400, .inl ft))]) [1, 0, 2] rfl, hD.sub (ws' := [(aw, .inl (cI, 2179, .inl g49)), (h, oX11 th aw ai ab ac hi re aP ta x47 en x48 de fa a5 sp av an ak ne aW aC ag aT aN aF), (aP, .inl (cB, 400, .inl ft))]) [1, 0, 2] (by decide) rfl, hS, lv_sub (l' := [(0, .ref h), (1, .int 1), (2, .int n)]) hl [0, 1, 2] rfl⟩
    · skip
      refine lv_if_eq (tgt := 45) hx hb dX11_readLine_27 (by decide) (fun c56 => absurd c56 (by decide)) (fun _ => ?_)
      refine lv_goto (tgt := 41) hx hb dX11_readLine_30 (by decide) ?_
      refine lv_iconst (v := 1) hx hb dX11_readLine_41 (by decide) ?_
      refine lv_goto (tgt := 46) hx hb dX11_readLine_42 (by decide) ?_
      have hP9 := hP.sub (ws' := [(h, oX11 th aw ai ab ac hi re aP ta x47 en x48 de fa a5 sp av an ak ne aW aC ag aT aN aF), (aw, .inl (cI, 2179, .inl g49)), (aP, .inl (cB, 400, .inl ft))]) [0, 1, 2] rfl
      have hD9 := hD.sub (ws' := [(h, oX11 th aw ai ab ac hi re aP ta x47 en x48 de fa a5 sp av an ak ne aW aC ag aT aN aF), (aw, .inl (cI, 2179, .inl g49)), (aP, .inl (cB, 400, .inl ft))]) [0, 1, 2] (by decide) rfl
      exact W.zret (v := 1) hx hb hr (by decide) (fun t ht hW => ⟨⟨1, (x47, x48, g49), rfl, ⟨k50, k51, k52, k53, (Or.inr ⟨rfl, k32⟩)⟩, by rw [ht]; exact hP9, va_K.moved hW.alike hK, hD9⟩, hS.F ht⟩) hS.2.2 dX11_readLine_46

