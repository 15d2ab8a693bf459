def kwX11_home : List Cond := .code yX11_home cX11_home 8 (some .int) :: kG
theorem hdX11_home : yX11_home.cls ≠ "java/lang/invoke/MethodHandle" ∧ yX11_home.cls ≠ "java/lang/invoke/VarHandle" ∧ (parseMethodDescriptor yX11_home.desc).map (fun d => d.parameters.length) = some 2 := by decide +kernel
theorem gX11_home_X11_has : GoodIn kG (va_wsS RX11 310 yX11_has kwX11_has) := gK w37_11 (gK w37_12 (gK w0_5 (gK w37_13 gGG)))
theorem gX11_home_X11_men : GoodIn kG (wsV RX11 71 RX11 yX11_men kwX11_men) := gK w19_17 (gK w19_18 (gK w19_19 (gK w0_5 (gK w19_20 gGG))))
theorem gX11_home_X11_noMan : GoodIn kG (wsV RX11 280 RX11 yX11_noMan kwX11_noMan) := gK w27_4 (gK w27_5 (gK w27_6 (gK w0_5 (gK w27_7 gGG))))
theorem gX11_home_X11_passed : GoodIn kG (wsV RX11 346 RX11 yX11_passed kwX11_passed) := gK w46_8 (gK w46_9 (gK w46_10 (gK w0_5 (gK w46_11 gGG))))
theorem gX11_home_X11_throwsIf : GoodIn kG (wsV RX11 258 RX11 yX11_throwsIf kwX11_throwsIf) := gK w23_6 (gK w23_7 (gK w23_8 (gK w0_5 (gK w23_9 gGG))))
theorem gX11_home_X11_uses : GoodIn kG (wsV RX11 247 RX11 yX11_uses kwX11_uses) := gK w18_7 (gK w18_8 (gK w18_9 (gK w0_5 (gK w18_10 gGG))))
theorem dX11_home_0 : decode cX11_home 0 = .ok (.aload_n 0, 1) := by decide +kernel
theorem dX11_home_1 : decode cX11_home 1 = .ok (.invokevirtual 247, 3) := by decide +kernel
theorem dX11_home_4 : decode cX11_home 4 = .ok (.aload_n 0, 1) := by decide +kernel
theorem dX11_home_5 : decode cX11_home 5 = .ok (.getfield 89, 3) := by decide +kernel
theorem dX11_home_8 : decode cX11_home 8 = .ok (.aload_n 0, 1) := by decide +kernel
theorem dX11_home_9 : decode cX11_home 9 = .ok (.invokevirtual 71, 3) := by decide +kernel
theorem dX11_home_12 : decode cX11_home 12 = .ok (.if_icmp .ne 7, 3) := by decide +kernel
theorem dX11_home_15 : decode cX11_home 15 = .ok (.iconst 1, 1) := by decide +kernel
theorem dX11_home_16 : decode cX11_home 16 = .ok (.goto 4, 3) := by decide +kernel
theorem dX11_home_19 : decode cX11_home 19 = .ok (.iconst 0, 1) := by decide +kernel
theorem dX11_home_20 : decode cX11_home 20 = .ok (.istore_n 3, 1) := by decide +kernel
theorem dX11_home_21 : decode cX11_home 21 = .ok (.iconst 0, 1) := by decide +kernel
theorem dX11_home_22 : decode cX11_home 22 = .ok (.istore 4, 2) := by decide +kernel
theorem dX11_home_24 : decode cX11_home 24 = .ok (.iload 4, 2) := by decide +kernel
theorem dX11_home_26 : decode cX11_home 26 = .ok (.aload_n 0, 1) := by decide +kernel
theorem dX11_home_27 : decode cX11_home 27 = .ok (.getfield 89, 3) := by decide +kernel
theorem dX11_home_30 : decode cX11_home 30 = .ok (.if_icmp .ge 36, 3) := by decide +kernel
theorem dX11_home_33 : decode cX11_home 33 = .ok (.iload_n 3, 1) := by decide +kernel
theorem dX11_home_34 : decode cX11_home 34 = .ok (.ifCond .eq 24, 3) := by decide +kernel
theorem dX11_home_37 : decode cX11_home 37 = .ok (.aload_n 0, 1) := by decide +kernel
theorem dX11_home_38 : decode cX11_home 38 = .ok (.aload_n 0, 1) := by decide +kernel
theorem dX11_home_39 : decode cX11_home 39 = .ok (.getfield 26, 3) := by decide +kernel
theorem dX11_home_42 : decode cX11_home 42 = .ok (.iload 4, 2) := by decide +kernel
theorem dX11_home_44 : decode cX11_home 44 = .ok (.baload, 1) := by decide +kernel
theorem dX11_home_45 : decode cX11_home 45 = .ok (.bipush 48, 2) := by decide +kernel
theorem dX11_home_47 : decode cX11_home 47 = .ok (.isub, 1) := by decide +kernel
theorem dX11_home_48 : decode cX11_home 48 = .ok (.invokevirtual 280, 3) := by decide +kernel
theorem dX11_home_51 : decode cX11_home 51 = .ok (.ifCond .ne 7, 3) := by decide +kernel
theorem dX11_home_54 : decode cX11_home 54 = .ok (.iconst 1, 1) := by decide +kernel
theorem dX11_home_55 : decode cX11_home 55 = .ok (.goto 4, 3) := by decide +kernel
theorem dX11_home_58 : decode cX11_home 58 = .ok (.iconst 0, 1) := by decide +kernel
theorem dX11_home_59 : decode cX11_home 59 = .ok (.istore_n 3, 1) := by decide +kernel
theorem dX11_home_60 : decode cX11_home 60 = .ok (.iinc 4 1, 3) := by decide +kernel
theorem dX11_home_63 : decode cX11_home 63 = .ok (.goto (-39), 3) := by decide +kernel
theorem dX11_home_66 : decode cX11_home 66 = .ok (.aload_n 0, 1) := by decide +kernel
theorem dX11_home_67 : decode cX11_home 67 = .ok (.aload_n 0, 1) := by decide +kernel
theorem dX11_home_68 : decode cX11_home 68 = .ok (.iload_n 1, 1) := by decide +kernel
theorem dX11_home_69 : decode cX11_home 69 = .ok (.invokevirtual 280, 3) := by decide +kernel
theorem dX11_home_72 : decode cX11_home 72 = .ok (.ifCond .ne 11, 3) := by decide +kernel
theorem dX11_home_75 : decode cX11_home 75 = .ok (.aload_n 0, 1) := by decide +kernel
theorem dX11_home_76 : decode cX11_home 76 = .ok (.iload_n 2, 1) := by decide +kernel
theorem dX11_home_77 : decode cX11_home 77 = .ok (.invokevirtual 280, 3) := by decide +kernel
theorem dX11_home_80 : decode cX11_home 80 = .ok (.ifCond .eq 7, 3) := by decide +kernel
theorem dX11_home_83 : decode cX11_home 83 = .ok (.iconst 1, 1) := by decide +kernel
theorem dX11_home_84 : decode cX11_home 84 = .ok (.goto 4, 3) := by decide +kernel
theorem dX11_home_87 : decode cX11_home 87 = .ok (.iconst 0, 1) := by decide +kernel
theorem dX11_home_88 : decode cX11_home 88 = .ok (.iconst 1, 1) := by decide +kernel
theorem dX11_home_89 : decode cX11_home 89 = .ok (.invokevirtual 258, 3) := by decide +kernel
theorem dX11_home_92 : decode cX11_home 92 = .ok (.ifCond .ne 20, 3) := by decide +kernel
theorem dX11_home_95 : decode cX11_home 95 = .ok (.aload_n 0, 1) := by decide +kernel
theorem dX11_home_96 : decode cX11_home 96 = .ok (.iload_n 3, 1) := by decide +kernel
theorem dX11_home_97 : decode cX11_home 97 = .ok (.ifCond .ne 7, 3) := by decide +kernel
theorem dX11_home_100 : decode cX11_home 100 = .ok (.iconst 1, 1) := by decide +kernel
theorem dX11_home_101 : decode cX11_home 101 = .ok (.goto 4, 3) := by decide +kernel
theorem dX11_home_104 : decode cX11_home 104 = .ok (.iconst 0, 1) := by decide +kernel
theorem dX11_home_105 : decode cX11_home 105 = .ok (.iconst 2, 1) := by decide +kernel
theorem dX11_home_106 : decode cX11_home 106 = .ok (.invokevirtual 258, 3) := by decide +kernel
theorem dX11_home_109 : decode cX11_home 109 = .ok (.ifCond .eq 5, 3) := by decide +kernel
theorem dX11_home_112 : decode cX11_home 112 = .ok (.iconst 0, 1) := by decide +kernel
theorem dX11_home_113 : decode cX11_home 113 = .ok (.ireturn, 1) := by decide +kernel
theorem dX11_home_114 : decode cX11_home 114 = .ok (.aload_n 0, 1) := by decide +kernel
theorem dX11_home_115 : decode cX11_home 115 = .ok (.iconst 1, 1) := by decide +kernel
theorem dX11_home_116 : decode cX11_home 116 = .ok (.iload_n 1, 1) := by decide +kernel
theorem dX11_home_117 : decode cX11_home 117 = .ok (.ishl, 1) := by decide +kernel
theorem dX11_home_118 : decode cX11_home 118 = .ok (.invokevirtual 346, 3) := by decide +kernel
theorem dX11_home_121 : decode cX11_home 121 = .ok (.istore 4, 2) := by decide +kernel
theorem dX11_home_123 : decode cX11_home 123 = .ok (.iconst 0, 1) := by decide +kernel
theorem dX11_home_124 : decode cX11_home 124 = .ok (.istore 5, 2) := by decide +kernel
theorem dX11_home_126 : decode cX11_home 126 = .ok (.iload 5, 2) := by decide +kernel
theorem dX11_home_128 : decode cX11_home 128 = .ok (.bipush 30, 2) := by decide +kernel
theorem dX11_home_130 : decode cX11_home 130 = .ok (.if_icmp .gt 81, 3) := by decide +kernel
theorem dX11_home_133 : decode cX11_home 133 = .ok (.iload 4, 2) := by decide +kernel
theorem dX11_home_135 : decode cX11_home 135 = .ok (.iload_n 2, 1) := by decide +kernel
theorem dX11_home_136 : decode cX11_home 136 = .ok (.invokestatic 310, 3) := by decide +kernel
theorem dX11_home_139 : decode cX11_home 139 = .ok (.ifCond .eq 6, 3) := by decide +kernel
theorem dX11_home_142 : decode cX11_home 142 = .ok (.iload 5, 2) := by decide +kernel
theorem dX11_home_144 : decode cX11_home 144 = .ok (.ireturn, 1) := by decide +kernel
theorem dX11_home_145 : decode cX11_home 145 = .ok (.iconst 0, 1) := by decide +kernel
theorem dX11_home_146 : decode cX11_home 146 = .ok (.istore 6, 2) := by decide +kernel
theorem dX11_home_148 : decode cX11_home 148 = .ok (.iconst 0, 1) := by decide +kernel
theorem dX11_home_149 : decode cX11_home 149 = .ok (.istore 7, 2) := by decide +kernel
theorem dX11_home_151 : decode cX11_home 151 = .ok (.iload 7, 2) := by decide +kernel
theorem dX11_home_153 : decode cX11_home 153 = .ok (.aload_n 0, 1) := by decide +kernel
theorem dX11_home_154 : decode cX11_home 154 = .ok (.invokevirtual 71, 3) := by decide +kernel
theorem dX11_home_157 : decode cX11_home 157 = .ok (.if_icmp .ge 40, 3) := by decide +kernel
theorem dX11_home_160 : decode cX11_home 160 = .ok (.iload 6, 2) := by decide +kernel
theorem dX11_home_162 : decode cX11_home 162 = .ok (.iload 4, 2) := by decide +kernel
theorem dX11_home_164 : decode cX11_home 164 = .ok (.iload 7, 2) := by decide +kernel
theorem dX11_home_166 : decode cX11_home 166 = .ok (.invokestatic 310, 3) := by decide +kernel
theorem dX11_home_169 : decode cX11_home 169 = .ok (.ifCond .eq 18, 3) := by decide +kernel
theorem dX11_home_172 : decode cX11_home 172 = .ok (.iconst 1, 1) := by decide +kernel
theorem dX11_home_173 : decode cX11_home 173 = .ok (.aload_n 0, 1) := by decide +kernel
theorem dX11_home_174 : decode cX11_home 174 = .ok (.getfield 26, 3) := by decide +kernel
theorem dX11_home_177 : decode cX11_home 177 = .ok (.iload 7, 2) := by decide +kernel
theorem dX11_home_179 : decode cX11_home 179 = .ok (.baload, 1) := by decide +kernel
theorem dX11_home_180 : decode cX11_home 180 = .ok (.bipush 48, 2) := by decide +kernel
theorem dX11_home_182 : decode cX11_home 182 = .ok (.isub, 1) := by decide +kernel
theorem dX11_home_183 : decode cX11_home 183 = .ok (.ishl, 1) := by decide +kernel
theorem dX11_home_184 : decode cX11_home 184 = .ok (.goto 4, 3) := by decide +kernel
theorem dX11_home_187 : decode cX11_home 187 = .ok (.iconst 0, 1) := by decide +kernel
theorem dX11_home_188 : decode cX11_home 188 = .ok (.ior, 1) := by decide +kernel
theorem dX11_home_189 : decode cX11_home 189 = .ok (.istore 6, 2) := by decide +kernel
theorem dX11_home_191 : decode cX11_home 191 = .ok (.iinc 7 1, 3) := by decide +kernel
theorem dX11_home_194 : decode cX11_home 194 = .ok (.goto (-43), 3) := by decide +kernel
theorem dX11_home_197 : decode cX11_home 197 = .ok (.aload_n 0, 1) := by decide +kernel
theorem dX11_home_198 : decode cX11_home 198 = .ok (.iload 6, 2) := by decide +kernel
theorem dX11_home_200 : decode cX11_home 200 = .ok (.invokevirtual 346, 3) := by decide +kernel
theorem dX11_home_203 : decode cX11_home 203 = .ok (.istore 4, 2) := by decide +kernel
theorem dX11_home_205 : decode cX11_home 205 = .ok (.iinc 5 1, 3) := by decide +kernel
theorem dX11_home_208 : decode cX11_home 208 = .ok (.goto (-82), 3) := by decide +kernel
theorem dX11_home_211 : decode cX11_home 211 = .ok (.iconst (-1), 1) := by decide +kernel
theorem dX11_home_212 : decode cX11_home 212 = .ok (.ireturn, 1) := by decide +kernel
set_option maxHeartbeats 4000000 in
set_option maxRecDepth 100000 in
/-- reference: home -/
theorem r_home (l : Launch) (D : va_G) (cI cJ cB cC : ClassId) (h : Nat) (th : Int32) (aw : Nat) (ai : Nat) (ab : Nat) (ac : Nat) (hi : Int32) (re : Int32) (aP : Nat) (ta : Int32) (po : Int32) (en : Int32) (be : Int32) (de : Int32) (fa : Int32) (a5 : Nat) (sp : Int32) (av : Nat) (an : Nat) (ak : Nat) (ne : Int32) (aW : Nat) (aC : Nat) (ag : Nat) (aT : Nat) (aN : Nat) (aF : Nat) (fw : Nat → Int32) (ft : Nat → Int32) (a1 : Int32) (b1 : Int32) (sz : Nat) (H_ta : Rg ta 0 400) (H_fw_W : wW fw) : Met l yX11_home kwX11_home ({ frames := 3, cells := 0, slots := 0, locals := 68 } : Room) (kPre D (kT cI cJ cB cC) sz [(h, oX11 th aw ai ab ac hi re aP ta po en be de fa a5 sp av an ak ne aW aC ag aT aN aF), (aw, .inl (cI, 2179, .inl fw)), (aP, .inl (cB, 400, .inl ft))] [.ref h, .int a1, .int b1]) (va_Qi (fun (r : Int32) (uu : Int32 × Int32) => match uu with | (n0_, n1_) => Rg n1_ 0 400 ∧ Rg r (-1) 30) (fun (uu : Int32 × Int32) (t : State) => match uu with | (n0_, n1_) => kB D (kT cI cJ cB cC) (va_A [(h, oX11 th aw ai ab ac hi re aP ta po en be de fa a5 sp av an ak ne aW aC ag aT aN aF), (aw, .inl (cI, 2179, .inl fw)), (aP, .inl (cB, 400, .inl ft))] sz) [(h, oX11 n0_ aw ai ab ac hi re aP 0 0 n1_ be de fa a5 sp av an ak ne aW aC ag aT aN aF), (aw, .inl (cI, 2179, .inl fw)), (aP, .inl (cB, 400, .inl ft))] t) (va_A [(h, oX11 th aw ai ab ac hi re aP ta po en be de fa a5 sp av an ak ne aW aC ag aT aN aF), (aw, .inl (cI, 2179, .inl fw)), (aP, .inl (cB, 400, .inl ft))] sz)) 0 0 (va_A [(h, oX11 th aw ai ab ac hi re aP ta po en be de fa a5 sp av an ak ne aW aC ag aT aN aF), (aw, .inl (cI, 2179, .inl fw)), (aP, .inl (cB, 400, .inl ft))] sz) := by
  refine Met.ofW (cc := cX11_home) (maxL := 8) (ret := (some .int)) (by decide) rfl ?_
  intro p e s m args below meth c s₁ B hml hv
  obtain ⟨rfl, hsz, hN, hE, hP, hK, hD0⟩ := hv
  have hx := B.exec
  have hb := B.bytes
  have hr := B.returns
  have hts := fun (w : Cond) (h : w ∈ kG) => atoms_spec (ws := kwX11_home) B.pre w (List.mem_cons_of_mem _ h)
  have hown : s.vm.findClass RX11 = some m.cls := findClass_of_methodNamed B.named
  subst hsz
  have hD := hD0.self (sz := s.heap.size)
  generalize hAe : va_A [(h, oX11 th aw ai ab ac hi re aP ta po en be de fa a5 sp av an ak ne aW aC ag aT aN aF), (aw, .inl (cI, 2179, .inl fw)), (aP, .inl (cB, 400, .inl ft))] s.heap.size = A at hD hE ⊢
  have hA : ∀ q : Nat, s.heap.size ≤ q → A q := fun q h => by rw [← hAe]; exact Or.inr h
  have hl := lv_entry ([.ref h, .int a1, .int b1]) (n := 8) (Nat.le_of_ble_eq_true rfl)
  rw [lg_entry_eq]
  generalize (lg_sl ([.ref h, .int a1, .int b1]) ++ List.replicate (8 - (lg_sl ([.ref h, .int a1, .int b1])).length) Slot.unset).toArray = ls at hl ⊢
  have hl : lv_has ls 8 [(0, .ref h), (1, .int a1), (2, .int b1)] := hl
  obtain ⟨H, hH0⟩ : ∃ H, H = s.heap := ⟨_, rfl⟩
  have hS : va_S A s.heap H [] := by rw [hH0]; exact va_S.rf
  have hP : va_P D vwCl [(h, oX11 th aw ai ab ac hi re aP ta po en be de fa a5 sp av an ak ne aW aC ag aT aN aF), (aw, .inl (cI, 2179, .inl fw)), (aP, .inl (cB, 400, .inl ft))] H := by rw [hH0]; exact hP
  refine kHeap hH0 ?_
  clear hH0
  refine lv_aload_n hx hb dX11_home_0 rfl (lv_at hl 0 rfl) ?_
  refine kcallv (wc := [(h, oX11 th aw ai ab ac hi re aP ta po en be de fa a5 sp av an ak ne aW aC ag aT aN aF)]) (wr := [(aw, .inl (cI, 2179, .inl fw)), (aP, .inl (cB, 400, .inl ft))]) hP hD hS hA [0] [1, 2] rfl rfl (by decide) (by decide) (by decide) (fun hPc hDc hFc => va_runV (As := []) (rest := []) ⟨hx, hb, hml, hown, hts⟩ (r_uses l D cI cJ cB cC h th aw ai ab ac hi re aP ta po en be de fa a5 sp av an ak ne aW aC ag aT aN aF H.size H_ta) (cwV 0 hts gX11_home_X11_uses rfl rfl rfl ⟨rfl, hdX11_uses⟩ ⟨Nat.le_of_ble_eq_true rfl, Nat.le_of_ble_eq_true rfl⟩) ⟨kBlind, va_recv hK hPc (ci := 10) (q0 := 0) rfl rfl, fun U hU hW => ⟨rfl, by rw [hU], hN.warm hW, hE.pass hS hFc hW hU, by rw [hU]; exact hPc, va_K.moved hW.alike hK, hDc⟩⟩ rfl rfl hl.1 rfl (lv_room (Nat.le_of_ble_eq_true rfl)) dX11_home_1 ⟨Nat.le_of_ble_eq_true rfl, Nat.le_of_ble_eq_true rfl⟩) (fun u H locs hw hP hD hS => ?_)
  have hP : va_P D vwCl [(aw, .inl (cI, 2179, .inl fw)), (aP, .inl (cB, 400, .inl ft)), (h, oX11 0 aw ai ab ac hi re aP 0 0 ta be de fa a5 sp av an ak ne aW aC ag aT aN aF)] H := hP
  have hD : va_D A [(aw, .inl (cI, 2179, .inl fw)), (aP, .inl (cB, 400, .inl ft)), (h, oX11 0 aw ai ab ac hi re aP 0 0 ta be de fa a5 sp av an ak ne aW aC ag aT aN aF)] := hD
  refine lv_aload_n hx hb dX11_home_4 rfl (lv_at hl 0 rfl) ?_
  refine va_get (D := D) (ci := 10) (v := .int ta) (C := RX11) (T := TX11) (N := 26) hx hb hts iG_X11 hown hK hP 2 rfl rfl 10 (by decide) (hts _ w18_6) (fun _ h9 => h9) rfl dX11_home_5 ?_
  refine lv_aload_n hx hb dX11_home_8 rfl (lv_at hl 0 rfl) ?_
  refine kpurei (wc := [(h, oX11 0 aw ai ab ac hi re aP 0 0 ta be de fa a5 sp av an ak ne aW aC ag aT aN aF), (aw, .inl (cI, 2179, .inl fw))]) hP hD hS hA [2, 0] rfl (by decide) (fun hPc hDc hFc => va_runV (As := []) (rest := [.int ta]) ⟨hx, hb, hml, hown, hts⟩ (r_men l D cI cJ cB cC h 0 aw ai ab ac hi re aP 0 0 ta be de fa a5 sp av an ak ne aW aC ag aT aN aF fw H.size H_fw_W) (cwV 0 hts gX11_home_X11_men rfl rfl rfl ⟨rfl, hdX11_men⟩ ⟨Nat.le_of_ble_eq_true rfl, Nat.le_of_ble_eq_true rfl⟩) ⟨kBlind, va_recv hK hPc (ci := 10) (q0 := 0) rfl rfl, fun U hU hW => ⟨rfl, by rw [hU], hN.warm hW, hE.pass hS hFc hW hU, by rw [hU]; exact hPc, va_K.moved hW.alike hK, hDc⟩⟩ rfl rfl hl.1 rfl (lv_room (Nat.le_of_ble_eq_true rfl)) dX11_home_9 ⟨Nat.le_of_ble_eq_true rfl, Nat.le_of_ble_eq_true rfl⟩) (fun r1 u H locs hw hP hS => ?_)
  obtain ⟨k2, k3⟩ := hw
  refine lv_icmp_ne (tgt := 19) hx hb dX11_home_12 (by decide) (fun c6 => ?_) (fun c6 => ?_)
  · skip
    refine lv_iconst (v := 0) hx hb dX11_home_19 (by decide) ?_
    refine lv_istore_n (lv' := [(3, .int 0), (0, .ref h), (1, .int a1), (2, .int b1)]) hx hb dX11_home_20 rfl hl (by decide) rfl (fun ls hl => ?_)
    refine lv_iconst (v := 0) hx hb dX11_home_21 (by decide) ?_
    refine lv_istore (lv' := [(4, .int 0), (3, .int 0), (0, .ref h), (1, .int a1), (2, .int b1)]) hx hb dX11_home_22 hl (by decide) rfl (fun ls hl => ?_)
    refine k_loop (hd := 24) (fun (y116 : Int32) => (400 - (y116).toInt).toNat) (fun (y116 : Int32) (H : Heap) (locs : List Loc) (ls : Array Slot) => Rg y116 0 400 ∧ va_P D vwCl [(aw, .inl (cI, 2179, .inl fw)), (aP, .inl (cB, 400, .inl ft)), (h, oX11 0 aw ai ab ac hi re aP 0 0 ta be de fa a5 sp av an ak ne aW aC ag aT aN aF)] H ∧ va_D A [(aw, .inl (cI, 2179, .inl fw)), (aP, .inl (cB, 400, .inl ft)), (h, oX11 0 aw ai ab ac hi re aP 0 0 ta be de fa a5 sp av an ak ne aW aC ag aT aN aF)] ∧ va_S A s.heap H locs ∧ lv_has ls 8 [(4, .int y116), (3, .int 0), (0, .ref h), (1, .int a1), (2, .int b1)]) ((0 : Int32)) ⟨(rg_w (rg_lit (n := 0) (by decide)) (by decide)), hP.sub (ws' := [(aw, .inl (cI, 2179, .inl fw)), (aP, .inl (cB, 400, .inl ft)), (h, oX11 0 aw ai ab ac hi re aP 0 0 ta be de fa a5 sp av an ak ne aW aC ag aT aN aF)]) [0, 1, 2] rfl, hD.sub (ws' := [(aw, .inl (cI, 2179, .inl fw)), (aP, .inl (cB, 400, .inl ft)), (h, oX11 0 aw ai ab ac hi re aP 0 0 ta be de fa a5 sp av an ak ne aW aC ag aT aN aF)]) [0, 1, 2] (by decide) rfl, hS, lv_sub (l' := [(4, .int 0), (3, .int 0), (0, .ref h), (1, .int a1), (2, .int b1)]) hl [0, 1, 2, 3, 4] rfl⟩ (fun u H locs ls hI ih117 => ?_)
    clear hP hD hS hl
    obtain ⟨y116, rfl⟩ : ∃ z, z = u := ⟨_, rfl⟩
    obtain ⟨hy116, hP, hD, hS, hl⟩ := hI
    have hP : va_P D vwCl [(aw, .inl (cI, 2179, .inl fw)), (aP, .inl (cB, 400, .inl ft)), (h, oX11 0 aw ai ab ac hi re aP 0 0 ta be de fa a5 sp av an ak ne aW aC ag aT aN aF)] H := hP
    have hD : va_D A [(aw, .inl (cI, 2179, .inl fw)), (aP, .inl (cB, 400, .inl ft)), (h, oX11 0 aw ai ab ac hi re aP 0 0 ta be de fa a5 sp av an ak ne aW aC ag aT aN aF)] := hD
    have hl : lv_has ls 8 [(4, .int y116), (3, .int 0), (0, .ref h), (1, .int a1), (2, .int b1)] := hl
    refine lv_iload hx hb dX11_home_24 (lv_at hl 0 rfl) ?_
    refine lv_aload_n hx hb dX11_home_26 rfl (lv_at hl 2 rfl) ?_
    refine va_get (D := D) (ci := 10) (v := .int ta) (C := RX11) (T := TX11) (N := 26) hx hb hts iG_X11 hown hK hP 2 rfl rfl 10 (by decide) (hts _ w18_6) (fun _ h9 => h9) rfl dX11_home_27 ?_
    refine lv_icmp_ge (tgt := 66) hx hb dX11_home_30 (by decide) (fun c118 => ?_) (fun c118 => ?_)
    · skip
      refine lv_aload_n hx hb dX11_home_66 rfl (lv_at hl 2 rfl) ?_
      refine lv_aload_n hx hb dX11_home_67 rfl (lv_at hl 2 rfl) ?_
      refine lv_iload_n hx hb dX11_home_68 rfl (lv_at hl 3 rfl) ?_
      refine kpurei (wc := [(h, oX11 0 aw ai ab ac hi re aP 0 0 ta be de fa a5 sp av an ak ne aW aC ag aT aN aF), (aw, .inl (cI, 2179, .inl fw))]) hP hD hS hA [2, 0] rfl (by decide) (fun hPc hDc hFc => va_runV (As := [.int a1]) (rest := [.ref h]) ⟨hx, hb, hml, hown, hts⟩ (r_noMan l D cI cJ cB cC h 0 aw ai ab ac hi re aP 0 0 ta be de fa a5 sp av an ak ne aW aC ag aT aN aF fw a1 H.size H_fw_W) (cwV 1 hts gX11_home_X11_noMan rfl rfl rfl ⟨rfl, hdX11_noMan⟩ ⟨Nat.le_of_ble_eq_true rfl, Nat.le_of_ble_eq_true rfl⟩) ⟨kBlind, va_recv hK hPc (ci := 10) (q0 := 0) rfl rfl, fun U hU hW => ⟨rfl, by rw [hU], hN.warm hW, hE.pass hS hFc hW hU, by rw [hU]; exact hPc, va_K.moved hW.alike hK, hDc⟩⟩ rfl rfl hl.1 rfl (lv_room (Nat.le_of_ble_eq_true rfl)) dX11_home_69 ⟨Nat.le_of_ble_eq_true rfl, Nat.le_of_ble_eq_true rfl⟩) (fun r119 u H locs hw hP hS => ?_)
      rcases hw with ⟨rfl, kc120_0, kc120_1⟩ | rfl
      · skip
        refine lv_if_ne (tgt := 83) hx hb dX11_home_72 (by decide) (fun c126 => absurd (by decide) c126) (fun _ => ?_)
        refine lv_aload_n hx hb dX11_home_75 rfl (lv_at hl 2 rfl) ?_
        refine lv_iload_n hx hb dX11_home_76 rfl (lv_at hl 4 rfl) ?_
        refine kpurei (wc := [(h, oX11 0 aw ai ab ac hi re aP 0 0 ta be de fa a5 sp av an ak ne aW aC ag aT aN aF), (aw, .inl (cI, 2179, .inl fw))]) hP hD hS hA [2, 0] rfl (by decide) (fun hPc hDc hFc => va_runV (As := [.int b1]) (rest := [.ref h]) ⟨hx, hb, hml, hown, hts⟩ (r_noMan l D cI cJ cB cC h 0 aw ai ab ac hi re aP 0 0 ta be de fa a5 sp av an ak ne aW aC ag aT aN aF fw b1 H.size H_fw_W) (cwV 1 hts gX11_home_X11_noMan rfl rfl rfl ⟨rfl, hdX11_noMan⟩ ⟨Nat.le_of_ble_eq_true rfl, Nat.le_of_ble_eq_true rfl⟩) ⟨kBlind, va_recv hK hPc (ci := 10) (q0 := 0) rfl rfl, fun U hU hW => ⟨rfl, by rw [hU], hN.warm hW, hE.pass hS hFc hW hU, by rw [hU]; exact hPc, va_K.moved hW.alike hK, hDc⟩⟩ rfl rfl hl.1 rfl (lv_room (Nat.le_of_ble_eq_true rfl)) dX11_home_77 ⟨Nat.le_of_ble_eq_true rfl, Nat.le_of_ble_eq_true rfl⟩) (fun r127 u H locs hw hP hS => ?_)
        rcases hw with ⟨rfl, kc128_0, kc128_1⟩ | rfl
        · skip
          refine lv_if_eq (tgt := 87) hx hb dX11_home_80 (by decide) (fun _ => ?_) (fun c129 => absurd (by decide) c129)
          refine lv_iconst (v := 0) hx hb dX11_home_87 (by decide) ?_
          refine lv_iconst (v := 1) hx hb dX11_home_88 (by decide) ?_
          refine kpurei (wc := [(h, oX11 0 aw ai ab ac hi re aP 0 0 ta be de fa a5 sp av an ak ne aW aC ag aT aN aF)]) hP hD hS hA [2] rfl (by decide) (fun hPc hDc hFc => va_runV (As := [.int 0, .int 1]) (rest := []) ⟨hx, hb, hml, hown, hts⟩ (r_throwsIf0_1 l D cI cJ cB cC h 0 aw ai ab ac hi re aP 0 0 ta be de fa a5 sp av an ak ne aW aC ag aT aN aF 1 H.size) (cwV 2 hts gX11_home_X11_throwsIf rfl rfl rfl ⟨rfl, hdX11_throwsIf⟩ ⟨Nat.le_of_ble_eq_true rfl, Nat.le_of_ble_eq_true rfl⟩) ⟨kBlind, va_recv hK hPc (ci := 10) (q0 := 0) rfl rfl, fun U hU hW => ⟨rfl, by rw [hU], hN.warm hW, hE.pass hS hFc hW hU, by rw [hU]; exact hPc, va_K.moved hW.alike hK, hDc⟩⟩ rfl rfl hl.1 rfl (lv_room (Nat.le_of_ble_eq_true rfl)) dX11_home_89 ⟨Nat.le_of_ble_eq_true rfl, Nat.le_of_ble_eq_true rfl⟩) (fun r130 u H locs hw hP hS => ?_)
          have k131 := hw
          refine lv_if_ne (tgt := 112) hx hb dX11_home_92 (by decide) (fun c138 => absurd (rg_eq k131 (rg_lit (n := 0) (by decide)) (by decide)) c138) (fun _ => ?_)
          refine lv_aload_n hx hb dX11_home_95 rfl (lv_at hl 2 rfl) ?_
          refine lv_iload_n hx hb dX11_home_96 rfl (lv_at hl 1 rfl) ?_
          refine lv_if_ne (tgt := 104) hx hb dX11_home_97 (by decide) (fun c140 => absurd (by decide) c140) (fun _ => ?_)
          refine lv_iconst (v := 1) hx hb dX11_home_100 (by decide) ?_
          refine lv_goto (tgt := 105) hx hb dX11_home_101 (by decide) ?_
          refine lv_iconst (v := 2) hx hb dX11_home_105 (by decide) ?_
          refine kcalli (wc := [(h, oX11 0 aw ai ab ac hi re aP 0 0 ta be de fa a5 sp av an ak ne aW aC ag aT aN aF)]) (wr := [(aw, .inl (cI, 2179, .inl fw)), (aP, .inl (cB, 400, .inl ft))]) hP hD hS hA [2] [0, 1] rfl rfl (by decide) (by decide) (by decide) (fun hPc hDc hFc => va_runV (As := [.int 1, .int 2]) (rest := []) ⟨hx, hb, hml, hown, hts⟩ (r_throwsIf1_1 l D cI cJ cB cC h 0 aw ai ab ac hi re aP 0 0 ta be de fa a5 sp av an ak ne aW aC ag aT aN aF 2 H.size) (cwV 2 hts gX11_home_X11_throwsIf rfl rfl rfl ⟨rfl, hdX11_throwsIf⟩ ⟨Nat.le_of_ble_eq_true rfl, Nat.le_of_ble_eq_true rfl⟩) ⟨kBlind, va_recv hK hPc (ci := 10) (q0 := 0) rfl rfl, fun U hU hW => ⟨rfl, by rw [hU], hN.warm hW, hE.pass hS hFc hW hU, by rw [hU]; exact hPc, va_K.moved hW.alike hK, hDc⟩⟩ rfl rfl hl.1 rfl (lv_room (Nat.le_of_ble_eq_true rfl)) dX11_home_106 ⟨Nat.le_of_ble_eq_true rfl, Nat.le_of_ble_eq_true rfl⟩) (fun r141 u H locs hw hP hD hS => ?_)
          obtain ⟨x142, rfl⟩ : ∃ z, z = u := ⟨_, rfl⟩
          have hP : va_P D vwCl [(aw, .inl (cI, 2179, .inl fw)), (aP, .inl (cB, 400, .inl ft)), (h, oX11 x142 aw ai ab ac hi re aP 0 0 ta be de fa a5 sp av an ak ne aW aC ag aT aN aF)] H := hP
          have hD : va_D A [(aw, .inl (cI, 2179, .inl fw)), (aP, .inl (cB, 400, .inl ft)), (h, oX11 x142 aw ai ab ac hi re aP 0 0 ta be de fa a5 sp av an ak ne aW aC ag aT aN aF)] := hD
          have k143 := hw
          refine lv_if_eq (tgt := 114) hx hb dX11_home_109 (by decide) (fun c144 => absurd c144 (rg_neq k143 (rg_lit (n := 0) (by decide)) (by decide))) (fun _ => ?_)
          refine lv_iconst (v := 0) hx hb dX11_home_112 (by decide) ?_
          have hP9 := hP.sub (ws' := [(h, oX11 x142 aw ai ab ac hi re aP 0 0 ta be de fa a5 sp av an ak ne aW aC ag aT aN aF), (aw, .inl (cI, 2179, .inl fw)), (aP, .inl (cB, 400, .inl ft))]) [2, 0, 1] rfl
          have hD9 := hD.sub (ws' := [(h, oX11 x142 aw ai ab ac hi re aP 0 0 ta be de fa a5 sp av an ak ne aW aC ag aT aN aF), (aw, .inl (cI, 2179, .inl fw)), (aP, .inl (cB, 400, .inl ft))]) [2, 0, 1] (by decide) rfl
          exact W.iret (v := 0) hx hb hr (fun t ht hW => ⟨⟨0, (x142, ta), rfl, ⟨H_ta, (rg_w (rg_lit (n := 0) (by decide)) (by decide))⟩, by rw [ht]; exact hP9, va_K.moved hW.alike hK, hD9⟩, hS.F ht⟩) hS.2.2 dX11_home_113
        · skip
          refine lv_if_eq (tgt := 87) hx hb dX11_home_80 (by decide) (fun c145 => absurd c145 (by decide)) (fun _ => ?_)
          refine lv_iconst (v := 1) hx hb dX11_home_83 (by decide) ?_
          refine lv_goto (tgt := 88) hx hb dX11_home_84 (by decide) ?_
          refine lv_iconst (v := 1) hx hb dX11_home_88 (by decide) ?_
          refine kcalli (wc := [(h, oX11 0 aw ai ab ac hi re aP 0 0 ta be de fa a5 sp av an ak ne aW aC ag aT aN aF)]) (wr := [(aw, .inl (cI, 2179, .inl fw)), (aP, .inl (cB, 400, .inl ft))]) hP hD hS hA [2] [0, 1] rfl rfl (by decide) (by decide) (by decide) (fun hPc hDc hFc => va_runV (As := [.int 1, .int 1]) (rest := []) ⟨hx, hb, hml, hown, hts⟩ (r_throwsIf1_1 l D cI cJ cB cC h 0 aw ai ab ac hi re aP 0 0 ta be de fa a5 sp av an ak ne aW aC ag aT aN aF 1 H.size) (cwV 2 hts gX11_home_X11_throwsIf rfl rfl rfl ⟨rfl, hdX11_throwsIf⟩ ⟨Nat.le_of_ble_eq_true rfl, Nat.le_of_ble_eq_true rfl⟩) ⟨kBlind, va_recv hK hPc (ci := 10) (q0 := 0) rfl rfl, fun U hU hW => ⟨rfl, by rw [hU], hN.warm hW, hE.pass hS hFc hW hU, by rw [hU]; exact hPc, va_K.moved hW.alike hK, hDc⟩⟩ rfl rfl hl.1 rfl (lv_room (Nat.le_of_ble_eq_true rfl)) dX11_home_89 ⟨Nat.le_of_ble_eq_true rfl, Nat.le_of_ble_eq_true rfl⟩) (fun r146 u H locs hw hP hD hS => ?_)
          obtain ⟨x147, rfl⟩ : ∃ z, z = u := ⟨_, rfl⟩
          have hP : va_P D vwCl [(aw, .inl (cI, 2179, .inl fw)), (aP, .inl (cB, 400, .inl ft)), (h, oX11 x147 aw ai ab ac hi re aP 0 0 ta be de fa a5 sp av an ak ne aW aC ag aT aN aF)] H := hP
          have hD : va_D A [(aw, .inl (cI, 2179, .inl fw)), (aP, .inl (cB, 400, .inl ft)), (h, oX11 x147 aw ai ab ac hi re aP 0 0 ta be de fa a5 sp av an ak ne aW aC ag aT aN aF)] := hD
          have k148 := hw
          refine lv_if_ne (tgt := 112) hx hb dX11_home_92 (by decide) (fun _ => ?_) (fun c150 => absurd c150 (rg_neq k148 (rg_lit (n := 0) (by decide)) (by decide)))
          refine lv_iconst (v := 0) hx hb dX11_home_112 (by decide) ?_
          have hP9 := hP.sub (ws' := [(h, oX11 x147 aw ai ab ac hi re aP 0 0 ta be de fa a5 sp av an ak ne aW aC ag aT aN aF), (aw, .inl (cI, 2179, .inl fw)), (aP, .inl (cB, 400, .inl ft))]) [2, 0, 1] rfl
          have hD9 := hD.sub (ws' := [(h, oX11 x147 aw ai ab ac hi re aP 0 0 ta be de fa a5 sp av an ak ne aW aC ag aT aN aF), (aw, .inl (cI, 2179, .inl fw)), (aP, .inl (cB, 400, .inl ft))]) [2, 0, 1] (by decide) rfl
          exact W.iret (v := 0) hx hb hr (fun t ht hW => ⟨⟨0, (x147, ta), rfl, ⟨H_ta, (rg_w (rg_lit (n := 0) (by decide)) (by decide))⟩, by rw [ht]; exact hP9, va_K.moved hW.alike hK, hD9⟩, hS.F ht⟩) hS.2.2 dX11_home_113
      · skip
        refine lv_if_ne (tgt := 83) hx hb dX11_home_72 (by decide) (fun _ => ?_) (fun c152 => absurd c152 (by decide))
        refine lv_iconst (v := 1) hx hb dX11_home_83 (by decide) ?_
        refine lv_goto (tgt := 88) hx hb dX11_home_84 (by decide) ?_
        refine lv_iconst (v := 1) hx hb dX11_home_88 (by decide) ?_
        refine kcalli (wc := [(h, oX11 0 aw ai ab ac hi re aP 0 0 ta be de fa a5 sp av an ak ne aW aC ag aT aN aF)]) (wr := [(aw, .inl (cI, 2179, .inl fw)), (aP, .inl (cB, 400, .inl ft))]) hP hD hS hA [2] [0, 1] rfl rfl (by decide) (by decide) (by decide) (fun hPc hDc hFc => va_runV (As := [.int 1, .int 1]) (rest := []) ⟨hx, hb, hml, hown, hts⟩ (r_throwsIf1_1 l D cI cJ cB cC h 0 aw ai ab ac hi re aP 0 0 ta be de fa a5 sp av an ak ne aW aC ag aT aN aF 1 H.size) (cwV 2 hts gX11_home_X11_throwsIf rfl rfl rfl ⟨rfl, hdX11_throwsIf⟩ ⟨Nat.le_of_ble_eq_true rfl, Nat.le_of_ble_eq_true rfl⟩) ⟨kBlind, va_recv hK hPc (ci := 10) (q0 := 0) rfl rfl, fun U hU hW => ⟨rfl, by rw [hU], hN.warm hW, hE.pass hS hFc hW hU, by rw [hU]; exact hPc, va_K.moved hW.alike hK, hDc⟩⟩ rfl rfl hl.1 rfl (lv_room (Nat.le_of_ble_eq_true rfl)) dX11_home_89 ⟨Nat.le_of_ble_eq_true rfl, Nat.le_of_ble_eq_true rfl⟩) (fun r153 u H locs hw hP hD hS => ?_)
        obtain ⟨x154, rfl⟩ : ∃ z, z = u := ⟨_, rfl⟩
        have hP : va_P D vwCl [(aw, .inl (cI, 2179, .inl fw)), (aP, .inl (cB, 400, .inl ft)), (h, oX11 x154 aw ai ab ac hi re aP 0 0 ta be de fa a5 sp av an ak ne aW aC ag aT aN aF)] H := hP
        have hD : va_D A [(aw, .inl (cI, 2179, .inl fw)), (aP, .inl (cB, 400, .inl ft)), (h, oX11 x154 aw ai ab ac hi re aP 0 0 ta be de fa a5 sp av an ak ne aW aC ag aT aN aF)] := hD
        have k155 := hw
        refine lv_if_ne (tgt := 112) hx hb dX11_home_92 (by decide) (fun _ => ?_) (fun c157 => absurd c157 (rg_neq k155 (rg_lit (n := 0) (by decide)) (by decide)))
        refine lv_iconst (v := 0) hx hb dX11_home_112 (by decide) ?_
        have hP9 := hP.sub (ws' := [(h, oX11 x154 aw ai ab ac hi re aP 0 0 ta be de fa a5 sp av an ak ne aW aC ag aT aN aF), (aw, .inl (cI, 2179, .inl fw)), (aP, .inl (cB, 400, .inl ft))]) [2, 0, 1] rfl
        have hD9 := hD.sub (ws' := [(h, oX11 x154 aw ai ab ac hi re aP 0 0 ta be de fa a5 sp av an ak ne aW aC ag aT aN aF), (aw, .inl (cI, 2179, .inl fw)), (aP, .inl (cB, 400, .inl ft))]) [2, 0, 1] (by decide) rfl
        exact W.iret (v := 0) hx hb hr (fun t ht hW => ⟨⟨0, (x154, ta), rfl, ⟨H_ta, (rg_w (rg_lit (n := 0) (by decide)) (by decide))⟩, by rw [ht]; exact hP9, va_K.moved hW.alike hK, hD9⟩, hS.F ht⟩) hS.2.2 dX11_home_113
    · skip
      have k158 : Rg y116 0 399 := rg_l1 (nleI c118) hy116 H_ta (by decide)
      have k159 : Rg ta 1 400 := rg_l2 (nleI c118) hy116 H_ta (by decide)
      refine lv_iload_n hx hb dX11_home_33 rfl (lv_at hl 1 rfl) ?_
      refine lv_if_eq (tgt := 58) hx hb dX11_home_34 (by decide) (fun _ => ?_) (fun c161 => absurd (by decide) c161)
      refine lv_iconst (v := 0) hx hb dX11_home_58 (by decide) ?_
      refine lv_istore_n (lv' := [(3, .int 0), (4, .int y116), (0, .ref h), (1, .int a1), (2, .int b1)]) hx hb dX11_home_59 rfl hl (by decide) rfl (fun ls hl => ?_)
      obtain ⟨x162, ex162⟩ : ∃ y : Int32, y = y116 + 1 := ⟨_, rfl⟩
      refine lv_iinc (v := x162) (lv' := [(4, .int x162), (3, .int 0), (0, .ref h), (1, .int a1), (2, .int b1)]) hx hb dX11_home_60 hl (k := 1) rfl (by rw [ex162]; rfl) (by decide) rfl (fun ls hl => ?_)
      have k163 : Rg x162 1 400 := rg_add ex162 k158 (rg_lit (n := 1) (by decide)) (by decide)
      refine lv_goto (tgt := 24) hx hb dX11_home_63 (by decide) ?_
      exact ih117 (x162) _ _ _ (by show (400 - (x162).toInt).toNat < (400 - (y116).toInt).toNat; exact mu_up ex162 k158 k163 (by decide)) ⟨(rg_w k163 (by decide)), hP.sub (ws' := [(aw, .inl (cI, 2179, .inl fw)), (aP, .inl (cB, 400, .inl ft)), (h, oX11 0 aw ai ab ac hi re aP 0 0 ta be de fa a5 sp av an ak ne aW aC ag aT aN aF)]) [0, 1, 2] rfl, hD.sub (ws' := [(aw, .inl (cI, 2179, .inl fw)), (aP, .inl (cB, 400, .inl ft)), (h, oX11 0 aw ai ab ac hi re aP 0 0 ta be de fa a5 sp av an ak ne aW aC ag aT aN aF)]) [0, 1, 2] (by decide) rfl, hS, lv_sub (l' := [(4, .int x162), (3, .int 0), (0, .ref h), (1, .int a1), (2, .int b1)]) hl [0, 1, 2, 3, 4] rfl⟩
  · skip
    have k164 : Rg ta 0 10 := rg_q1 (eqI c6) H_ta k3 (by decide)
    refine lv_iconst (v := 1) hx hb dX11_home_15 (by decide) ?_
    refine lv_goto (tgt := 20) hx hb dX11_home_16 (by decide) ?_
    refine lv_istore_n (lv' := [(3, .int 1), (0, .ref h), (1, .int a1), (2, .int b1)]) hx hb dX11_home_20 rfl hl (by decide) rfl (fun ls hl => ?_)
    refine lv_iconst (v := 0) hx hb dX11_home_21 (by decide) ?_
    refine lv_istore (lv' := [(4, .int 0), (3, .int 1), (0, .ref h), (1, .int a1), (2, .int b1)]) hx hb dX11_home_22 hl (by decide) rfl (fun ls hl => ?_)
    refine k_loop (hd := 24) (fun (u : Int32 × Int32) => match u with | (y445, y446) => (10 - (y445).toInt).toNat) (fun (u : Int32 × Int32) (H : Heap) (locs : List Loc) (ls : Array Slot) => match u with | (y445, y446) => Rg y445 0 10 ∧ Rg y446 0 1 ∧ va_P D vwCl [(aw, .inl (cI, 2179, .inl fw)), (aP, .inl (cB, 400, .inl ft)), (h, oX11 0 aw ai ab ac hi re aP 0 0 ta be de fa a5 sp av an ak ne aW aC ag aT aN aF)] H ∧ va_D A [(aw, .inl (cI, 2179, .inl fw)), (aP, .inl (cB, 400, .inl ft)), (h, oX11 0 aw ai ab ac hi re aP 0 0 ta be de fa a5 sp av an ak ne aW aC ag aT aN aF)] ∧ va_S A s.heap H locs ∧ lv_has ls 8 [(4, .int y445), (3, .int y446), (0, .ref h), (1, .int a1), (2, .int b1)]) ((0 : Int32), (1 : Int32)) ⟨(rg_w (rg_lit (n := 0) (by decide)) (by decide)), (rg_w (rg_lit (n := 1) (by decide)) (by decide)), hP.sub (ws' := [(aw, .inl (cI, 2179, .inl fw)), (aP, .inl (cB, 400, .inl ft)), (h, oX11 0 aw ai ab ac hi re aP 0 0 ta be de fa a5 sp av an ak ne aW aC ag aT aN aF)]) [0, 1, 2] rfl, hD.sub (ws' := [(aw, .inl (cI, 2179, .inl fw)), (aP, .inl (cB, 400, .inl ft)), (h, oX11 0 aw ai ab ac hi re aP 0 0 ta be de fa a5 sp av an ak ne aW aC ag aT aN aF)]) [0, 1, 2] (by decide) rfl, hS, lv_sub (l' := [(4, .int 0), (3, .int 1), (0, .ref h), (1, .int a1), (2, .int b1)]) hl [0, 1, 2, 3, 4] rfl⟩ (fun u H locs ls hI ih447 => ?_)
    clear hP hD hS hl
    obtain ⟨y445, y446⟩ := u
    obtain ⟨hy445, hy446, hP, hD, hS, hl⟩ := hI
    have hP : va_P D vwCl [(aw, .inl (cI, 2179, .inl fw)), (aP, .inl (cB, 400, .inl ft)), (h, oX11 0 aw ai ab ac hi re aP 0 0 ta be de fa a5 sp av an ak ne aW aC ag aT aN aF)] H := hP
    have hD : va_D A [(aw, .inl (cI, 2179, .inl fw)), (aP, .inl (cB, 400, .inl ft)), (h, oX11 0 aw ai ab ac hi re aP 0 0 ta be de fa a5 sp av an ak ne aW aC ag aT aN aF)] := hD
    have hl : lv_has ls 8 [(4, .int y445), (3, .int y446), (0, .ref h), (1, .int a1), (2, .int b1)] := hl
    refine lv_iload hx hb dX11_home_24 (lv_at hl 0 rfl) ?_
    refine lv_aload_n hx hb dX11_home_26 rfl (lv_at hl 2 rfl) ?_
    refine va_get (D := D) (ci := 10) (v := .int ta) (C := RX11) (T := TX11) (N := 26) hx hb hts iG_X11 hown hK hP 2 rfl rfl 10 (by decide) (hts _ w18_6) (fun _ h9 => h9) rfl dX11_home_27 ?_
    refine lv_icmp_ge (tgt := 66) hx hb dX11_home_30 (by decide) (fun c448 => ?_) (fun c448 => ?_)
    · skip
      refine lv_aload_n hx hb dX11_home_66 rfl (lv_at hl 2 rfl) ?_
      refine lv_aload_n hx hb dX11_home_67 rfl (lv_at hl 2 rfl) ?_
      refine lv_iload_n hx hb dX11_home_68 rfl (lv_at hl 3 rfl) ?_
      refine kpurei (wc := [(h, oX11 0 aw ai ab ac hi re aP 0 0 ta be de fa a5 sp av an ak ne aW aC ag aT aN aF), (aw, .inl (cI, 2179, .inl fw))]) hP hD hS hA [2, 0] rfl (by decide) (fun hPc hDc hFc => va_runV (As := [.int a1]) (rest := [.ref h]) ⟨hx, hb, hml, hown, hts⟩ (r_noMan l D cI cJ cB cC h 0 aw ai ab ac hi re aP 0 0 ta be de fa a5 sp av an ak ne aW aC ag aT aN aF fw a1 H.size H_fw_W) (cwV 1 hts gX11_home_X11_noMan rfl rfl rfl ⟨rfl, hdX11_noMan⟩ ⟨Nat.le_of_ble_eq_true rfl, Nat.le_of_ble_eq_true rfl⟩) ⟨kBlind, va_recv hK hPc (ci := 10) (q0 := 0) rfl rfl, fun U hU hW => ⟨rfl, by rw [hU], hN.warm hW, hE.pass hS hFc hW hU, by rw [hU]; exact hPc, va_K.moved hW.alike hK, hDc⟩⟩ rfl rfl hl.1 rfl (lv_room (Nat.le_of_ble_eq_true rfl)) dX11_home_69 ⟨Nat.le_of_ble_eq_true rfl, Nat.le_of_ble_eq_true rfl⟩) (fun r449 u H locs hw hP hS => ?_)
      rcases hw with ⟨rfl, kc450_0, kc450_1⟩ | rfl
      · skip
        refine lv_if_ne (tgt := 83) hx hb dX11_home_72 (by decide) (fun c456 => absurd (by decide) c456) (fun _ => ?_)
        refine lv_aload_n hx hb dX11_home_75 rfl (lv_at hl 2 rfl) ?_
        refine lv_iload_n hx hb dX11_home_76 rfl (lv_at hl 4 rfl) ?_
        refine kpurei (wc := [(h, oX11 0 aw ai ab ac hi re aP 0 0 ta be de fa a5 sp av an ak ne aW aC ag aT aN aF), (aw, .inl (cI, 2179, .inl fw))]) hP hD hS hA [2, 0] rfl (by decide) (fun hPc hDc hFc => va_runV (As := [.int b1]) (rest := [.ref h]) ⟨hx, hb, hml, hown, hts⟩ (r_noMan l D cI cJ cB cC h 0 aw ai ab ac hi re aP 0 0 ta be de fa a5 sp av an ak ne aW aC ag aT aN aF fw b1 H.size H_fw_W) (cwV 1 hts gX11_home_X11_noMan rfl rfl rfl ⟨rfl, hdX11_noMan⟩ ⟨Nat.le_of_ble_eq_true rfl, Nat.le_of_ble_eq_true rfl⟩) ⟨kBlind, va_recv hK hPc (ci := 10) (q0 := 0) rfl rfl, fun U hU hW => ⟨rfl, by rw [hU], hN.warm hW, hE.pass hS hFc hW hU, by rw [hU]; exact hPc, va_K.moved hW.alike hK, hDc⟩⟩ rfl rfl hl.1 rfl (lv_room (Nat.le_of_ble_eq_true rfl)) dX11_home_77 ⟨Nat.le_of_ble_eq_true rfl, Nat.le_of_ble_eq_true rfl⟩) (fun r457 u H locs hw hP hS => ?_)
        rcases hw with ⟨rfl, kc458_0, kc458_1⟩ | rfl
        · skip
          refine lv_if_eq (tgt := 87) hx hb dX11_home_80 (by decide) (fun _ => ?_) (fun c459 => absurd (by decide) c459)
          refine lv_iconst (v := 0) hx hb dX11_home_87 (by decide) ?_
          refine lv_iconst (v := 1) hx hb dX11_home_88 (by decide) ?_
          refine kpurei (wc := [(h, oX11 0 aw ai ab ac hi re aP 0 0 ta be de fa a5 sp av an ak ne aW aC ag aT aN aF)]) hP hD hS hA [2] rfl (by decide) (fun hPc hDc hFc => va_runV (As := [.int 0, .int 1]) (rest := []) ⟨hx, hb, hml, hown, hts⟩ (r_throwsIf0_1 l D cI cJ cB cC h 0 aw ai ab ac hi re aP 0 0 ta be de fa a5 sp av an ak ne aW aC ag aT aN aF 1 H.size) (cwV 2 hts gX11_home_X11_throwsIf rfl rfl rfl ⟨rfl, hdX11_throwsIf⟩ ⟨Nat.le_of_ble_eq_true rfl, Nat.le_of_ble_eq_true rfl⟩) ⟨kBlind, va_recv hK hPc (ci := 10) (q0 := 0) rfl rfl, fun U hU hW => ⟨rfl, by rw [hU], hN.warm hW, hE.pass hS hFc hW hU, by rw [hU]; exact hPc, va_K.moved hW.alike hK, hDc⟩⟩ rfl rfl hl.1 rfl (lv_room (Nat.le_of_ble_eq_true rfl)) dX11_home_89 ⟨Nat.le_of_ble_eq_true rfl, Nat.le_of_ble_eq_true rfl⟩) (fun r460 u H locs hw hP hS => ?_)
          have k461 := hw
          refine lv_if_ne (tgt := 112) hx hb dX11_home_92 (by decide) (fun c6671 => absurd (rg_eq k461 (rg_lit (n := 0) (by decide)) (by decide)) c6671) (fun _ => ?_)
          refine lv_aload_n hx hb dX11_home_95 rfl (lv_at hl 2 rfl) ?_
          refine lv_iload_n hx hb dX11_home_96 rfl (lv_at hl 1 rfl) ?_
          refine lv_if_ne (tgt := 104) hx hb dX11_home_97 (by decide) (fun c6675 => ?_) (fun c6675 => ?_)
          · skip
            have k6676 : Rg y446 1 1 := rg_n1 (neI c6675) hy446 (rg_lit (n := 0) (by decide)) (by decide)
            refine lv_iconst (v := 0) hx hb dX11_home_104 (by decide) ?_
            refine lv_iconst (v := 2) hx hb dX11_home_105 (by decide) ?_
            refine kpurei (wc := [(h, oX11 0 aw ai ab ac hi re aP 0 0 ta be de fa a5 sp av an ak ne aW aC ag aT aN aF)]) hP hD hS hA [2] rfl (by decide) (fun hPc hDc hFc => va_runV (As := [.int 0, .int 2]) (rest := []) ⟨hx, hb, hml, hown, hts⟩ (r_throwsIf0_1 l D cI cJ cB cC h 0 aw ai ab ac hi re aP 0 0 ta be de fa a5 sp av an ak ne aW aC ag aT aN aF 2 H.size) (cwV 2 hts gX11_home_X11_throwsIf rfl rfl rfl ⟨rfl, hdX11_throwsIf⟩ ⟨Nat.le_of_ble_eq_true rfl, Nat.le_of_ble_eq_true rfl⟩) ⟨kBlind, va_recv hK hPc (ci := 10) (q0 := 0) rfl rfl, fun U hU hW => ⟨rfl, by rw [hU], hN.warm hW, hE.pass hS hFc hW hU, by rw [hU]; exact hPc, va_K.moved hW.alike hK, hDc⟩⟩ rfl rfl hl.1 rfl (lv_room (Nat.le_of_ble_eq_true rfl)) dX11_home_106 ⟨Nat.le_of_ble_eq_true rfl, Nat.le_of_ble_eq_true rfl⟩) (fun r6677 u H locs hw hP hS => ?_)
            have k6678 := hw
            refine lv_if_eq (tgt := 114) hx hb dX11_home_109 (by decide) (fun _ => ?_) (fun c6679 => absurd (rg_eq k6678 (rg_lit (n := 0) (by decide)) (by decide)) c6679)
            refine lv_aload_n hx hb dX11_home_114 rfl (lv_at hl 2 rfl) ?_
            refine lv_iconst (v := 1) hx hb dX11_home_115 (by decide) ?_
            refine lv_iload_n hx hb dX11_home_116 rfl (lv_at hl 3 rfl) ?_
            refine lv_ishl hx hb dX11_home_117 ?_
            refine lv_topi (fun x6680 ex6680 => ?_)
            have k6681 : Rg x6680 1 512 := rg_shl1 9 ex6680 kc450_0 (by decide)
            clear ex6680
            refine kpurei (wc := [(h, oX11 0 aw ai ab ac hi re aP 0 0 ta be de fa a5 sp av an ak ne aW aC ag aT aN aF), (aw, .inl (cI, 2179, .inl fw))]) hP hD hS hA [2, 0] rfl (by decide) (fun hPc hDc hFc => va_runV (As := [.int x6680]) (rest := []) ⟨hx, hb, hml, hown, hts⟩ (r_passed l D cI cJ cB cC h 0 aw ai ab ac hi re aP 0 0 ta be de fa a5 sp av an ak ne aW aC ag aT aN aF fw x6680 H.size H_fw_W) (cwV 1 hts gX11_home_X11_passed rfl rfl rfl ⟨rfl, hdX11_passed⟩ ⟨Nat.le_of_ble_eq_true rfl, Nat.le_of_ble_eq_true rfl⟩) ⟨kBlind, va_recv hK hPc (ci := 10) (q0 := 0) rfl rfl, fun U hU hW => ⟨rfl, by rw [hU], hN.warm hW, hE.pass hS hFc hW hU, by rw [hU]; exact hPc, va_K.moved hW.alike hK, hDc⟩⟩ rfl rfl hl.1 rfl (lv_room (Nat.le_of_ble_eq_true rfl)) dX11_home_118 ⟨Nat.le_of_ble_eq_true rfl, Nat.le_of_ble_eq_true rfl⟩) (fun r6682 u H locs hw hP hS => ?_)
            refine lv_istore (lv' := [(4, .int r6682), (3, .int y446), (0, .ref h), (1, .int a1), (2, .int b1)]) hx hb dX11_home_121 hl (by decide) rfl (fun ls hl => ?_)
            refine lv_iconst (v := 0) hx hb dX11_home_123 (by decide) ?_
            refine lv_istore (lv' := [(5, .int 0), (4, .int r6682), (3, .int y446), (0, .ref h), (1, .int a1), (2, .int b1)]) hx hb dX11_home_124 hl (by decide) rfl (fun ls hl => ?_)
            refine k_loop (hd := 126) (fun (u : Int32 × Int32) => match u with | (y12513, y12514) => (31 - (y12513).toInt).toNat) (fun (u : Int32 × Int32) (H : Heap) (locs : List Loc) (ls : Array Slot) => match u with | (y12513, y12514) => Rg y12513 0 31 ∧ va_P D vwCl [(aw, .inl (cI, 2179, .inl fw)), (aP, .inl (cB, 400, .inl ft)), (h, oX11 0 aw ai ab ac hi re aP 0 0 ta be de fa a5 sp av an ak ne aW aC ag aT aN aF)] H ∧ va_D A [(aw, .inl (cI, 2179, .inl fw)), (aP, .inl (cB, 400, .inl ft)), (h, oX11 0 aw ai ab ac hi re aP 0 0 ta be de fa a5 sp av an ak ne aW aC ag aT aN aF)] ∧ va_S A s.heap H locs ∧ lv_has ls 8 [(5, .int y12513), (4, .int y12514), (3, .int y446), (0, .ref h), (1, .int a1), (2, .int b1)]) ((0 : Int32), r6682) ⟨(rg_w (rg_lit (n := 0) (by decide)) (by decide)), hP.sub (ws' := [(aw, .inl (cI, 2179, .inl fw)), (aP, .inl (cB, 400, .inl ft)), (h, oX11 0 aw ai ab ac hi re aP 0 0 ta be de fa a5 sp av an ak ne aW aC ag aT aN aF)]) [0, 1, 2] rfl, hD.sub (ws' := [(aw, .inl (cI, 2179, .inl fw)), (aP, .inl (cB, 400, .inl ft)), (h, oX11 0 aw ai ab ac hi re aP 0 0 ta be de fa a5 sp av an ak ne aW aC ag aT aN aF)]) [0, 1, 2] (by decide) rfl, hS, lv_sub (l' := [(5, .int 0), (4, .int r6682), (3, .int y446), (0, .ref h), (1, .int a1), (2, .int b1)]) hl [0, 1, 2, 3, 4, 5] rfl⟩ (fun u H locs ls hI ih12515 => ?_)
            clear hP hD hS hl
            obtain ⟨y12513, y12514⟩ := u
            obtain ⟨hy12513, hP, hD, hS, hl⟩ := hI
            have hP : va_P D vwCl [(aw, .inl (cI, 2179, .inl fw)), (aP, .inl (cB, 400, .inl ft)), (h, oX11 0 aw ai ab ac hi re aP 0 0 ta be de fa a5 sp av an ak ne aW aC ag aT aN aF)] H := hP
            have hD : va_D A [(aw, .inl (cI, 2179, .inl fw)), (aP, .inl (cB, 400, .inl ft)), (h, oX11 0 aw ai ab ac hi re aP 0 0 ta be de fa a5 sp av an ak ne aW aC ag aT aN aF)] := hD
            have hl : lv_has ls 8 [(5, .int y12513), (4, .int y12514), (3, .int y446), (0, .ref h), (1, .int a1), (2, .int b1)] := hl
            refine lv_iload hx hb dX11_home_126 (lv_at hl 0 rfl) ?_
            refine lv_bipush (v := 30) hx hb dX11_home_128 (by decide) ?_
            refine lv_icmp_gt (tgt := 211) hx hb dX11_home_130 (by decide) (fun c12516 => ?_) (fun c12516 => ?_)
            · skip
              have k12517 : Rg y12513 31 31 := rg_l2 (ltI c12516) (rg_lit (n := 30) (by decide)) hy12513 (by decide)
              refine lv_iconst (v := (-1)) hx hb dX11_home_211 (by decide) ?_
              have hP9 := hP.sub (ws' := [(h, oX11 0 aw ai ab ac hi re aP 0 0 ta be de fa a5 sp av an ak ne aW aC ag aT aN aF), (aw, .inl (cI, 2179, .inl fw)), (aP, .inl (cB, 400, .inl ft))]) [2, 0, 1] rfl
              have hD9 := hD.sub (ws' := [(h, oX11 0 aw ai ab ac hi re aP 0 0 ta be de fa a5 sp av an ak ne aW aC ag aT aN aF), (aw, .inl (cI, 2179, .inl fw)), (aP, .inl (cB, 400, .inl ft))]) [2, 0, 1] (by decide) rfl
              exact W.iret (v := (-1)) hx hb hr (fun t ht hW => ⟨⟨(-1), ((0 : Int32), ta), rfl, ⟨(rg_w k164 (by decide)), (rg_w (rg_lit (n := -1) (by decide)) (by decide))⟩, by rw [ht]; exact hP9, va_K.moved hW.alike hK, hD9⟩, hS.F ht⟩) hS.2.2 dX11_home_212
            · skip
              have k12518 : Rg y12513 0 30 := rg_e1 (nltI c12516) hy12513 (rg_lit (n := 30) (by decide)) (by decide)
              refine lv_iload hx hb dX11_home_133 (lv_at hl 1 rfl) ?_
              refine lv_iload_n hx hb dX11_home_135 rfl (lv_at hl 5 rfl) ?_
              refine kpurei (wc := []) hP hD hS hA [] rfl (by decide) (fun hPc hDc hFc => va_runS (As := [.int y12514, .int b1]) (rest := []) ⟨hx, hb, hml, hown, hts⟩ (r_has l D cI cJ cB cC y12514 b1 H.size) (va_cwS 2 hts gX11_home_X11_has rfl rfl rfl hdX11_has ⟨Nat.le_of_ble_eq_true rfl, Nat.le_of_ble_eq_true rfl⟩) ⟨kBlind, fun U hU hW => ⟨rfl, by rw [hU], hN.warm hW, hE.pass hS hFc hW hU, by rw [hU]; exact hPc, va_K.moved hW.alike hK, hDc⟩⟩ rfl rfl hl.1 rfl (lv_room (Nat.le_of_ble_eq_true rfl)) dX11_home_136 ⟨Nat.le_of_ble_eq_true rfl, Nat.le_of_ble_eq_true rfl⟩) (fun r12519 u H locs hw hP hS => ?_)
              have k12520 := hw
              refine lv_if_eq (tgt := 145) hx hb dX11_home_139 (by decide) (fun c12521 => ?_) (fun c12521 => ?_)
              · skip
                have k12522 : Rg r12519 0 0 := rg_q1 (eqI c12521) k12520 (rg_lit (n := 0) (by decide)) (by decide)
                refine lv_iconst (v := 0) hx hb dX11_home_145 (by decide) ?_
                refine lv_istore (lv' := [(6, .int 0), (5, .int y12513), (4, .int y12514), (3, .int y446), (0, .ref h), (1, .int a1), (2, .int b1)]) hx hb dX11_home_146 hl (by decide) rfl (fun ls hl => ?_)
                refine lv_iconst (v := 0) hx hb dX11_home_148 (by decide) ?_
                refine lv_istore (lv' := [(7, .int 0), (6, .int 0), (5, .int y12513), (4, .int y12514), (3, .int y446), (0, .ref h), (1, .int a1), (2, .int b1)]) hx hb dX11_home_149 hl (by decide) rfl (fun ls hl => ?_)
                refine k_loop (hd := 151) (fun (u : Int32 × Int32) => match u with | (y12854, y12855) => (10 - (y12854).toInt).toNat) (fun (u : Int32 × Int32) (H : Heap) (locs : List Loc) (ls : Array Slot) => match u with | (y12854, y12855) => Rg y12854 0 10 ∧ va_P D vwCl [(aw, .inl (cI, 2179, .inl fw)), (aP, .inl (cB, 400, .inl ft)), (h, oX11 0 aw ai ab ac hi re aP 0 0 ta be de fa a5 sp av an ak ne aW aC ag aT aN aF)] H ∧ va_D A [(aw, .inl (cI, 2179, .inl fw)), (aP, .inl (cB, 400, .inl ft)), (h, oX11 0 aw ai ab ac hi re aP 0 0 ta be de fa a5 sp av an ak ne aW aC ag aT aN aF)] ∧ va_S A s.heap H locs ∧ lv_has ls 8 [(7, .int y12854), (6, .int y12855), (5, .int y12513), (4, .int y12514), (3, .int y446), (0, .ref h), (1, .int a1), (2, .int b1)]) ((0 : Int32), (0 : Int32)) ⟨(rg_w (rg_lit (n := 0) (by decide)) (by decide)), hP.sub (ws' := [(aw, .inl (cI, 2179, .inl fw)), (aP, .inl (cB, 400, .inl ft)), (h, oX11 0 aw ai ab ac hi re aP 0 0 ta be de fa a5 sp av an ak ne aW aC ag aT aN aF)]) [0, 1, 2] rfl, hD.sub (ws' := [(aw, .inl (cI, 2179, .inl fw)), (aP, .inl (cB, 400, .inl ft)), (h, oX11 0 aw ai ab ac hi re aP 0 0 ta be de fa a5 sp av an ak ne aW aC ag aT aN aF)]) [0, 1, 2] (by decide) rfl, hS, lv_sub (l' := [(7, .int 0), (6, .int 0), (5, .int y12513), (4, .int y12514), (3, .int y446), (0, .ref h), (1, .int a1), (2, .int b1)]) hl [0, 1, 2, 3, 4, 5, 6, 7] rfl⟩ (fun u H locs ls hI ih12856 => ?_)
                clear hP hD hS hl
                obtain ⟨y12854, y12855⟩ := u
                obtain ⟨hy12854, hP, hD, hS, hl⟩ := hI
                have hP : va_P D vwCl [(aw, .inl (cI, 2179, .inl fw)), (aP, .inl (cB, 400, .inl ft)), (h, oX11 0 aw ai ab ac hi re aP 0 0 ta be de fa a5 sp av an ak ne aW aC ag aT aN aF)] H := hP
                have hD : va_D A [(aw, .inl (cI, 2179, .inl fw)), (aP, .inl (cB, 400, .inl ft)), (h, oX11 0 aw ai ab ac hi re aP 0 0 ta be de fa a5 sp av an ak ne aW aC ag aT aN aF)] := hD
                have hl : lv_has ls 8 [(7, .int y12854), (6, .int y12855), (5, .int y12513), (4, .int y12514), (3, .int y446), (0, .ref h), (1, .int a1), (2, .int b1)] := hl
                refine lv_iload hx hb dX11_home_151 (lv_at hl 0 rfl) ?_
                refine lv_aload_n hx hb dX11_home_153 rfl (lv_at hl 5 rfl) ?_
                refine kpurei (wc := [(h, oX11 0 aw ai ab ac hi re aP 0 0 ta be de fa a5 sp av an ak ne aW aC ag aT aN aF), (aw, .inl (cI, 2179, .inl fw))]) hP hD hS hA [2, 0] rfl (by decide) (fun hPc hDc hFc => va_runV (As := []) (rest := [.int y12854]) ⟨hx, hb, hml, hown, hts⟩ (r_men l D cI cJ cB cC h 0 aw ai ab ac hi re aP 0 0 ta be de fa a5 sp av an ak ne aW aC ag aT aN aF fw H.size H_fw_W) (cwV 0 hts gX11_home_X11_men rfl rfl rfl ⟨rfl, hdX11_men⟩ ⟨Nat.le_of_ble_eq_true rfl, Nat.le_of_ble_eq_true rfl⟩) ⟨kBlind, va_recv hK hPc (ci := 10) (q0 := 0) rfl rfl, fun U hU hW => ⟨rfl, by rw [hU], hN.warm hW, hE.pass hS hFc hW hU, by rw [hU]; exact hPc, va_K.moved hW.alike hK, hDc⟩⟩ rfl rfl hl.1 rfl (lv_room (Nat.le_of_ble_eq_true rfl)) dX11_home_154 ⟨Nat.le_of_ble_eq_true rfl, Nat.le_of_ble_eq_true rfl⟩) (fun r12857 u H locs hw hP hS => ?_)
                obtain ⟨k12858, k12859⟩ := hw
                obtain rfl : r1 = r12857 := k2.trans k12858.symm
                refine lv_icmp_ge (tgt := 197) hx hb dX11_home_157 (by decide) (fun c12860 => ?_) (fun c12860 => ?_)
                · skip
                  refine lv_aload_n hx hb dX11_home_197 rfl (lv_at hl 5 rfl) ?_
                  refine lv_iload hx hb dX11_home_198 (lv_at hl 1 rfl) ?_
                  refine kpurei (wc := [(h, oX11 0 aw ai ab ac hi re aP 0 0 ta be de fa a5 sp av an ak ne aW aC ag aT aN aF), (aw, .inl (cI, 2179, .inl fw))]) hP hD hS hA [2, 0] rfl (by decide) (fun hPc hDc hFc => va_runV (As := [.int y12855]) (rest := []) ⟨hx, hb, hml, hown, hts⟩ (r_passed l D cI cJ cB cC h 0 aw ai ab ac hi re aP 0 0 ta be de fa a5 sp av an ak ne aW aC ag aT aN aF fw y12855 H.size H_fw_W) (cwV 1 hts gX11_home_X11_passed rfl rfl rfl ⟨rfl, hdX11_passed⟩ ⟨Nat.le_of_ble_eq_true rfl, Nat.le_of_ble_eq_true rfl⟩) ⟨kBlind, va_recv hK hPc (ci := 10) (q0 := 0) rfl rfl, fun U hU hW => ⟨rfl, by rw [hU], hN.warm hW, hE.pass hS hFc hW hU, by rw [hU]; exact hPc, va_K.moved hW.alike hK, hDc⟩⟩ rfl rfl hl.1 rfl (lv_room (Nat.le_of_ble_eq_true rfl)) dX11_home_200 ⟨Nat.le_of_ble_eq_true rfl, Nat.le_of_ble_eq_true rfl⟩) (fun r12861 u H locs hw hP hS => ?_)
                  refine lv_istore (lv' := [(4, .int r12861), (7, .int y12854), (6, .int y12855), (5, .int y12513), (3, .int y446), (0, .ref h), (1, .int a1), (2, .int b1)]) hx hb dX11_home_203 hl (by decide) rfl (fun ls hl => ?_)
                  obtain ⟨x12862, ex12862⟩ : ∃ y : Int32, y = y12513 + 1 := ⟨_, rfl⟩
                  refine lv_iinc (v := x12862) (lv' := [(5, .int x12862), (4, .int r12861), (7, .int y12854), (6, .int y12855), (3, .int y446), (0, .ref h), (1, .int a1), (2, .int b1)]) hx hb dX11_home_205 hl (k := 3) rfl (by rw [ex12862]; rfl) (by decide) rfl (fun ls hl => ?_)
                  have k12863 : Rg x12862 1 31 := rg_add ex12862 k12518 (rg_lit (n := 1) (by decide)) (by decide)
                  refine lv_goto (tgt := 126) hx hb dX11_home_208 (by decide) ?_
                  exact ih12515 (x12862, r12861) _ _ _ (by show (31 - (x12862).toInt).toNat < (31 - (y12513).toInt).toNat; exact mu_up ex12862 k12518 k12863 (by decide)) ⟨(rg_w k12863 (by decide)), hP.sub (ws' := [(aw, .inl (cI, 2179, .inl fw)), (aP, .inl (cB, 400, .inl ft)), (h, oX11 0 aw ai ab ac hi re aP 0 0 ta be de fa a5 sp av an ak ne aW aC ag aT aN aF)]) [0, 1, 2] rfl, hD.sub (ws' := [(aw, .inl (cI, 2179, .inl fw)), (aP, .inl (cB, 400, .inl ft)), (h, oX11 0 aw ai ab ac hi re aP 0 0 ta be de fa a5 sp av an ak ne aW aC ag aT aN aF)]) [0, 1, 2] (by decide) rfl, hS, lv_sub (l' := [(5, .int x12862), (4, .int r12861), (3, .int y446), (0, .ref h), (1, .int a1), (2, .int b1)]) hl [0, 1, 4, 5, 6, 7] rfl⟩
                · skip
                  have k12864 : Rg y12854 0 9 := rg_l1 (nleI c12860) hy12854 k3 (by decide)
                  have k12865 : Rg r1 1 10 := rg_l2 (nleI c12860) hy12854 k3 (by decide)
                  refine lv_iload hx hb dX11_home_160 (lv_at hl 1 rfl) ?_
                  refine lv_iload hx hb dX11_home_162 (lv_at hl 3 rfl) ?_
                  refine lv_iload hx hb dX11_home_164 (lv_at hl 0 rfl) ?_
                  refine kpurei (wc := []) hP hD hS hA [] rfl (by decide) (fun hPc hDc hFc => va_runS (As := [.int y12514, .int y12854]) (rest := [.int y12855]) ⟨hx, hb, hml, hown, hts⟩ (r_has l D cI cJ cB cC y12514 y12854 H.size) (va_cwS 2 hts gX11_home_X11_has rfl rfl rfl hdX11_has ⟨Nat.le_of_ble_eq_true rfl, Nat.le_of_ble_eq_true rfl⟩) ⟨kBlind, fun U hU hW => ⟨rfl, by rw [hU], hN.warm hW, hE.pass hS hFc hW hU, by rw [hU]; exact hPc, va_K.moved hW.alike hK, hDc⟩⟩ rfl rfl hl.1 rfl (lv_room (Nat.le_of_ble_eq_true rfl)) dX11_home_166 ⟨Nat.le_of_ble_eq_true rfl, Nat.le_of_ble_eq_true rfl⟩) (fun r12866 u H locs hw hP hS => ?_)
                  have k12867 := hw
                  refine k_join (hd := 188) (cells2 := 0) (slots2 := 0) (fun (u : Int32 × Int32) => match u with | (z12876, z12877) => [.int z12876, .int z12877]) (fun (u : Int32 × Int32) (H : Heap) (locs : List Loc) (ls : Array Slot) => match u with | (z12876, z12877) => va_P D vwCl [(aw, .inl (cI, 2179, .inl fw)), (aP, .inl (cB, 400, .inl ft)), (h, oX11 0 aw ai ab ac hi re aP 0 0 ta be de fa a5 sp av an ak ne aW aC ag aT aN aF)] H ∧ va_D A [(aw, .inl (cI, 2179, .inl fw)), (aP, .inl (cB, 400, .inl ft)), (h, oX11 0 aw ai ab ac hi re aP 0 0 ta be de fa a5 sp av an ak ne aW aC ag aT aN aF)] ∧ va_S A s.heap H locs ∧ lv_has ls 8 [(7, .int y12854), (6, .int y12855), (5, .int y12513), (4, .int y12514), (3, .int y446), (0, .ref h), (1, .int a1), (2, .int b1)]) (fun u H locs ls hI => ?_) (fun hJ188 => ?_)
                  · skip
                    clear hP hD hS hl
                    obtain ⟨z12876, z12877⟩ := u
                    obtain ⟨hP, hD, hS, hl⟩ := hI
                    have hP : va_P D vwCl [(aw, .inl (cI, 2179, .inl fw)), (aP, .inl (cB, 400, .inl ft)), (h, oX11 0 aw ai ab ac hi re aP 0 0 ta be de fa a5 sp av an ak ne aW aC ag aT aN aF)] H := hP
                    have hD : va_D A [(aw, .inl (cI, 2179, .inl fw)), (aP, .inl (cB, 400, .inl ft)), (h, oX11 0 aw ai ab ac hi re aP 0 0 ta be de fa a5 sp av an ak ne aW aC ag aT aN aF)] := hD
                    have hl : lv_has ls 8 [(7, .int y12854), (6, .int y12855), (5, .int y12513), (4, .int y12514), (3, .int y446), (0, .ref h), (1, .int a1), (2, .int b1)] := hl
                    show W _ _ _ _ _ _ _ _ _ _ _ _ _ _ _ (F0 m 188 ls [.int z12876, .int z12877])
                    refine lv_ior hx hb dX11_home_188 ?_
                    refine lv_topi (fun x12878 ex12878 => ?_)
                    clear ex12878
                    refine lv_istore (lv' := [(6, .int x12878), (7, .int y12854), (5, .int y12513), (4, .int y12514), (3, .int y446), (0, .ref h), (1, .int a1), (2, .int b1)]) hx hb dX11_home_189 hl (by decide) rfl (fun ls hl => ?_)
                    obtain ⟨x12879, ex12879⟩ : ∃ y : Int32, y = y12854 + 1 := ⟨_, rfl⟩
                    refine lv_iinc (v := x12879) (lv' := [(7, .int x12879), (6, .int x12878), (5, .int y12513), (4, .int y12514), (3, .int y446), (0, .ref h), (1, .int a1), (2, .int b1)]) hx hb dX11_home_191 hl (k := 1) rfl (by rw [ex12879]; rfl) (by decide) rfl (fun ls hl => ?_)
                    have k12880 : Rg x12879 1 10 := rg_add ex12879 k12864 (rg_lit (n := 1) (by decide)) (by decide)
                    refine lv_goto (tgt := 151) hx hb dX11_home_194 (by decide) ?_
                    exact ih12856 (x12879, x12878) _ _ _ (by show (10 - (x12879).toInt).toNat < (10 - (y12854).toInt).toNat; exact mu_up ex12879 k12864 k12880 (by decide)) ⟨(rg_w k12880 (by decide)), hP.sub (ws' := [(aw, .inl (cI, 2179, .inl fw)), (aP, .inl (cB, 400, .inl ft)), (h, oX11 0 aw ai ab ac hi re aP 0 0 ta be de fa a5 sp av an ak ne aW aC ag aT aN aF)]) [0, 1, 2] rfl, hD.sub (ws' := [(aw, .inl (cI, 2179, .inl fw)), (aP, .inl (cB, 400, .inl ft)), (h, oX11 0 aw ai ab ac hi re aP 0 0 ta be de fa a5 sp av an ak ne aW aC ag aT aN aF)]) [0, 1, 2] (by decide) rfl, hS, lv_sub (l' := [(7, .int x12879), (6, .int x12878), (5, .int y12513), (4, .int y12514), (3, .int y446), (0, .ref h), (1, .int a1), (2, .int b1)]) hl [0, 1, 2, 3, 4, 5, 6, 7] rfl⟩
                  refine lv_if_eq (tgt := 187) hx hb dX11_home_169 (by decide) (fun c12881 => ?_) (fun c12881 => ?_)
                  · skip
                    have k12882 : Rg r12866 0 0 := rg_q1 (eqI c12881) k12867 (rg_lit (n := 0) (by decide)) (by decide)
                    refine lv_iconst (v := 0) hx hb dX11_home_187 (by decide) ?_
                    exact hJ188 ((0 : Int32), y12855) _ _ _ ⟨hP.sub (ws' := [(aw, .inl (cI, 2179, .inl fw)), (aP, .inl (cB, 400, .inl ft)), (h, oX11 0 aw ai ab ac hi re aP 0 0 ta be de fa a5 sp av an ak ne aW aC ag aT aN aF)]) [0, 1, 2] rfl, hD.sub (ws' := [(aw, .inl (cI, 2179, .inl fw)), (aP, .inl (cB, 400, .inl ft)), (h, oX11 0 aw ai ab ac hi re aP 0 0 ta be de fa a5 sp av an ak ne aW aC ag aT aN aF)]) [0, 1, 2] (by decide) rfl, hS, lv_sub (l' := [(7, .int y12854), (6, .int y12855), (5, .int y12513), (4, .int y12514), (3, .int y446), (0, .ref h), (1, .int a1), (2, .int b1)]) hl [0, 1, 2, 3, 4, 5, 6, 7] rfl⟩
                  · skip
                    have k12883 : Rg r12866 1 1 := rg_n1 (neI c12881) k12867 (rg_lit (n := 0) (by decide)) (by decide)
                    refine lv_iconst (v := 1) hx hb dX11_home_172 (by decide) ?_
                    refine lv_aload_n hx hb dX11_home_173 rfl (lv_at hl 5 rfl) ?_
                    refine va_get (D := D) (ci := 10) (v := .ref aP) (C := RX11) (T := TX11) (N := 26) hx hb hts iG_X11 hown hK hP 2 rfl rfl 7 (by decide) (hts _ w5_8) (fun _ h9 => h9) rfl dX11_home_174 ?_
                    refine lv_iload hx hb dX11_home_177 (lv_at hl 0 rfl) ?_
                    refine va_bald hx hb hK hP 1 2 rfl rfl (rg_in k12864 (by decide)) dX11_home_179 ?_
                    refine lv_topi (fun x12884 ex12884 => ?_)
                    clear ex12884
                    refine lv_bipush (v := 48) hx hb dX11_home_180 (by decide) ?_
                    refine lv_isub hx hb dX11_home_182 ?_
                    refine lv_topi (fun x12885 ex12885 => ?_)
                    clear ex12885
                    refine lv_ishl hx hb dX11_home_183 ?_
                    refine lv_topi (fun x12886 ex12886 => ?_)
                    clear ex12886
                    refine lv_goto (tgt := 188) hx hb dX11_home_184 (by decide) ?_
                    exact hJ188 (x12886, y12855) _ _ _ ⟨hP.sub (ws' := [(aw, .inl (cI, 2179, .inl fw)), (aP, .inl (cB, 400, .inl ft)), (h, oX11 0 aw ai ab ac hi re aP 0 0 ta be de fa a5 sp av an ak ne aW aC ag aT aN aF)]) [0, 1, 2] rfl, hD.sub (ws' := [(aw, .inl (cI, 2179, .inl fw)), (aP, .inl (cB, 400, .inl ft)), (h, oX11 0 aw ai ab ac hi re aP 0 0 ta be de fa a5 sp av an ak ne aW aC ag aT aN aF)]) [0, 1, 2] (by decide) rfl, hS, lv_sub (l' := [(7, .int y12854), (6, .int y12855), (5, .int y12513), (4, .int y12514), (3, .int y446), (0, .ref h), (1, .int a1), (2, .int b1)]) hl [0, 1, 2, 3, 4, 5, 6, 7] rfl⟩
              · skip
                have k12887 : Rg r12519 1 1 := rg_n1 (neI c12521) k12520 (rg_lit (n := 0) (by decide)) (by decide)
                refine lv_iload hx hb dX11_home_142 (lv_at hl 0 rfl) ?_
                have hP9 := hP.sub (ws' := [(h, oX11 0 aw ai ab ac hi re aP 0 0 ta be de fa a5 sp av an ak ne aW aC ag aT aN aF), (aw, .inl (cI, 2179, .inl fw)), (aP, .inl (cB, 400, .inl ft))]) [2, 0, 1] rfl
                have hD9 := hD.sub (ws' := [(h, oX11 0 aw ai ab ac hi re aP 0 0 ta be de fa a5 sp av an ak ne aW aC ag aT aN aF), (aw, .inl (cI, 2179, .inl fw)), (aP, .inl (cB, 400, .inl ft))]) [2, 0, 1] (by decide) rfl
                exact W.iret (v := y12513) hx hb hr (fun t ht hW => ⟨⟨y12513, ((0 : Int32), ta), rfl, ⟨(rg_w k164 (by decide)), (rg_w k12518 (by decide))⟩, by rw [ht]; exact hP9, va_K.moved hW.alike hK, hD9⟩, hS.F ht⟩) hS.2.2 dX11_home_144
          · skip
            have k12888 : Rg y446 0 0 := rg_q1 (eqI c6675) hy446 (rg_lit (n := 0) (by decide)) (by decide)
            refine lv_iconst (v := 1) hx hb dX11_home_100 (by decide) ?_
            refine lv_goto (tgt := 105) hx hb dX11_home_101 (by decide) ?_
            refine lv_iconst (v := 2) hx hb dX11_home_105 (by decide) ?_
            refine kcalli (wc := [(h, oX11 0 aw ai ab ac hi re aP 0 0 ta be de fa a5 sp av an ak ne aW aC ag aT aN aF)]) (wr := [(aw, .inl (cI, 2179, .inl fw)), (aP, .inl (cB, 400, .inl ft))]) hP hD hS hA [2] [0, 1] rfl rfl (by decide) (by decide) (by decide) (fun hPc hDc hFc => va_runV (As := [.int 1, .int 2]) (rest := []) ⟨hx, hb, hml, hown, hts⟩ (r_throwsIf1_1 l D cI cJ cB cC h 0 aw ai ab ac hi re aP 0 0 ta be de fa a5 sp av an ak ne aW aC ag aT aN aF 2 H.size) (cwV 2 hts gX11_home_X11_throwsIf rfl rfl rfl ⟨rfl, hdX11_throwsIf⟩ ⟨Nat.le_of_ble_eq_true rfl, Nat.le_of_ble_eq_true rfl⟩) ⟨kBlind, va_recv hK hPc (ci := 10) (q0 := 0) rfl rfl, fun U hU hW => ⟨rfl, by rw [hU], hN.warm hW, hE.pass hS hFc hW hU, by rw [hU]; exact hPc, va_K.moved hW.alike hK, hDc⟩⟩ rfl rfl hl.1 rfl (lv_room (Nat.le_of_ble_eq_true rfl)) dX11_home_106 ⟨Nat.le_of_ble_eq_true rfl, Nat.le_of_ble_eq_true rfl⟩) (fun r12889 u H locs hw hP hD hS => ?_)
            obtain ⟨x12890, rfl⟩ : ∃ z, z = u := ⟨_, rfl⟩
            have hP : va_P D vwCl [(aw, .inl (cI, 2179, .inl fw)), (aP, .inl (cB, 400, .inl ft)), (h, oX11 x12890 aw ai ab ac hi re aP 0 0 ta be de fa a5 sp av an ak ne aW aC ag aT aN aF)] H := hP
            have hD : va_D A [(aw, .inl (cI, 2179, .inl fw)), (aP, .inl (cB, 400, .inl ft)), (h, oX11 x12890 aw ai ab ac hi re aP 0 0 ta be de fa a5 sp av an ak ne aW aC ag aT aN aF)] := hD
            have k12891 := hw
            refine lv_if_eq (tgt := 114) hx hb dX11_home_109 (by decide) (fun c12892 => absurd c12892 (rg_neq k12891 (rg_lit (n := 0) (by decide)) (by decide))) (fun _ => ?_)
            refine lv_iconst (v := 0) hx hb dX11_home_112 (by decide) ?_
            have hP9 := hP.sub (ws' := [(h, oX11 x12890 aw ai ab ac hi re aP 0 0 ta be de fa a5 sp av an ak ne aW aC ag aT aN aF), (aw, .inl (cI, 2179, .inl fw)), (aP, .inl (cB, 400, .inl ft))]) [2, 0, 1] rfl
            have hD9 := hD.sub (ws' := [(h, oX11 x12890 aw ai ab ac hi re aP 0 0 ta be de fa a5 sp av an ak ne aW aC ag aT aN aF), (aw, .inl (cI, 2179, .inl fw)), (aP, .inl (cB, 400, .inl ft))]) [2, 0, 1] (by decide) rfl
            exact W.iret (v := 0) hx hb hr (fun t ht hW => ⟨⟨0, (x12890, ta), rfl, ⟨(rg_w k164 (by decide)), (rg_w (rg_lit (n := 0) (by decide)) (by decide))⟩, by rw [ht]; exact hP9, va_K.moved hW.alike hK, hD9⟩, hS.F ht⟩) hS.2.2 dX11_home_113
        · skip
          refine lv_if_eq (tgt := 87) hx hb dX11_home_80 (by decide) (fun c12893 => absurd c12893 (by decide)) (fun _ => ?_)
          refine lv_iconst (v := 1) hx hb dX11_home_83 (by decide) ?_
          refine lv_goto (tgt := 88) hx hb dX11_home_84 (by decide) ?_
          refine lv_iconst (v := 1) hx hb dX11_home_88 (by decide) ?_
          refine kcalli (wc := [(h, oX11 0 aw ai ab ac hi re aP 0 0 ta be de fa a5 sp av an ak ne aW aC ag aT aN aF)]) (wr := [(aw, .inl (cI, 2179, .inl fw)), (aP, .inl (cB, 400, .inl ft))]) hP hD hS hA [2] [0, 1] rfl rfl (by decide) (by decide) (by decide) (fun hPc hDc hFc => va_runV (As := [.int 1, .int 1]) (rest := []) ⟨hx, hb, hml, hown, hts⟩ (r_throwsIf1_1 l D cI cJ cB cC h 0 aw ai ab ac hi re aP 0 0 ta be de fa a5 sp av an ak ne aW aC ag aT aN aF 1 H.size) (cwV 2 hts gX11_home_X11_throwsIf rfl rfl rfl ⟨rfl, hdX11_throwsIf⟩ ⟨Nat.le_of_ble_eq_true rfl, Nat.le_of_ble_eq_true rfl⟩) ⟨kBlind, va_recv hK hPc (ci := 10) (q0 := 0) rfl rfl, fun U hU hW => ⟨rfl, by rw [hU], hN.warm hW, hE.pass hS hFc hW hU, by rw [hU]; exact hPc, va_K.moved hW.alike hK, hDc⟩⟩ rfl rfl hl.1 rfl (lv_room (Nat.le_of_ble_eq_true rfl)) dX11_home_89 ⟨Nat.le_of_ble_eq_true rfl, Nat.le_of_ble_eq_true rfl⟩) (fun r12894 u H locs hw hP hD hS => ?_)
          obtain ⟨x12895, rfl⟩ : ∃ z, z = u := ⟨_, rfl⟩
          have hP : va_P D vwCl [(aw, .inl (cI, 2179, .inl fw)), (aP, .inl (cB, 400, .inl ft)), (h, oX11 x12895 aw ai ab ac hi re aP 0 0 ta be de fa a5 sp av an ak ne aW aC ag aT aN aF)] H := hP
          have hD : va_D A [(aw, .inl (cI, 2179, .inl fw)), (aP, .inl (cB, 400, .inl ft)), (h, oX11 x12895 aw ai ab ac hi re aP 0 0 ta be de fa a5 sp av an ak ne aW aC ag aT aN aF)] := hD
          have k12896 := hw
          refine lv_if_ne (tgt := 112) hx hb dX11_home_92 (by decide) (fun _ => ?_) (fun c12898 => absurd c12898 (rg_neq k12896 (rg_lit (n := 0) (by decide)) (by decide)))
          refine lv_iconst (v := 0) hx hb dX11_home_112 (by decide) ?_
          have hP9 := hP.sub (ws' := [(h, oX11 x12895 aw ai ab ac hi re aP 0 0 ta be de fa a5 sp av an ak ne aW aC ag aT aN aF), (aw, .inl (cI, 2179, .inl fw)), (aP, .inl (cB, 400, .inl ft))]) [2, 0, 1] rfl
          have hD9 := hD.sub (ws' := [(h, oX11 x12895 aw ai ab ac hi re aP 0 0 ta be de fa a5 sp av an ak ne aW aC ag aT aN aF), (aw, .inl (cI, 2179, .inl fw)), (aP, .inl (cB, 400, .inl ft))]) [2, 0, 1] (by decide) rfl
          exact W.iret (v := 0) hx hb hr (fun t ht hW => ⟨⟨0, (x12895, ta), rfl, ⟨(rg_w k164 (by decide)), (rg_w (rg_lit (n := 0) (by decide)) (by decide))⟩, by rw [ht]; exact hP9, va_K.moved hW.alike hK, hD9⟩, hS.F ht⟩) hS.2.2 dX11_home_113
      · skip
        refine lv_if_ne (tgt := 83) hx hb dX11_home_72 (by decide) (fun _ => ?_) (fun c12900 => absurd c12900 (by decide))
        refine lv_iconst (v := 1) hx hb dX11_home_83 (by decide) ?_
        refine lv_goto (tgt := 88) hx hb dX11_home_84 (by decide) ?_
        refine lv_iconst (v := 1) hx hb dX11_home_88 (by decide) ?_
        refine kcalli (wc := [(h, oX11 0 aw ai ab ac hi re aP 0 0 ta be de fa a5 sp av an ak ne aW aC ag aT aN aF)]) (wr := [(aw, .inl (cI, 2179, .inl fw)), (aP, .inl (cB, 400, .inl ft))]) hP hD hS hA [2] [0, 1] rfl rfl (by decide) (by decide) (by decide) (fun hPc hDc hFc => va_runV (As := [.int 1, .int 1]) (rest := []) ⟨hx, hb, hml, hown, hts⟩ (r_throwsIf1_1 l D cI cJ cB cC h 0 aw ai ab ac hi re aP 0 0 ta be de fa a5 sp av an ak ne aW aC ag aT aN aF 1 H.size) (cwV 2 hts gX11_home_X11_throwsIf rfl rfl rfl ⟨rfl, hdX11_throwsIf⟩ ⟨Nat.le_of_ble_eq_true rfl, Nat.le_of_ble_eq_true rfl⟩) ⟨kBlind, va_recv hK hPc (ci := 10) (q0 := 0) rfl rfl, fun U hU hW => ⟨rfl, by rw [hU], hN.warm hW, hE.pass hS hFc hW hU, by rw [hU]; exact hPc, va_K.moved hW.alike hK, hDc⟩⟩ rfl rfl hl.1 rfl (lv_room (Nat.le_of_ble_eq_true rfl)) dX11_home_89 ⟨Nat.le_of_ble_eq_true rfl, Nat.le_of_ble_eq_true rfl⟩) (fun r12901 u H locs hw hP hD hS => ?_)
        obtain ⟨x12902, rfl⟩ : ∃ z, z = u := ⟨_, rfl⟩
        have hP : va_P D vwCl [(aw, .inl (cI, 2179, .inl fw)), (aP, .inl (cB, 400, .inl ft)), (h, oX11 x12902 aw ai ab ac hi re aP 0 0 ta be de fa a5 sp av an ak ne aW aC ag aT aN aF)] H := hP
        have hD : va_D A [(aw, .inl (cI, 2179, .inl fw)), (aP, .inl (cB, 400, .inl ft)), (h, oX11 x12902 aw ai ab ac hi re aP 0 0 ta be de fa a5 sp av an ak ne aW aC ag aT aN aF)] := hD
        have k12903 := hw
        refine lv_if_ne (tgt := 112) hx hb dX11_home_92 (by decide) (fun _ => ?_) (fun c12905 => absurd c12905 (rg_neq k12903 (rg_lit (n := 0) (by decide)) (by decide)))
        refine lv_iconst (v := 0) hx hb dX11_home_112 (by decide) ?_
        have hP9 := hP.sub (ws' := [(h, oX11 x12902 aw ai ab ac hi re aP 0 0 ta be de fa a5 sp av an ak ne aW aC ag aT aN aF), (aw, .inl (cI, 2179, .inl fw)), (aP, .inl (cB, 400, .inl ft))]) [2, 0, 1] rfl
        have hD9 := hD.sub (ws' := [(h, oX11 x12902 aw ai ab ac hi re aP 0 0 ta be de fa a5 sp av an ak ne aW aC ag aT aN aF), (aw, .inl (cI, 2179, .inl fw)), (aP, .inl (cB, 400, .inl ft))]) [2, 0, 1] (by decide) rfl
        exact W.iret (v := 0) hx hb hr (fun t ht hW => ⟨⟨0, (x12902, ta), rfl, ⟨(rg_w k164 (by decide)), (rg_w (rg_lit (n := 0) (by decide)) (by decide))⟩, by rw [ht]; exact hP9, va_K.moved hW.alike hK, hD9⟩, hS.F ht⟩) hS.2.2 dX11_home_113
    · skip
      have k12906 : Rg y445 0 9 := rg_l1 (nleI c448) hy445 k164 (by decide)
      have k12907 : Rg ta 1 10 := rg_l2 (nleI c448) hy445 k164 (by decide)
      refine lv_iload_n hx hb dX11_home_33 rfl (lv_at hl 1 rfl) ?_
      refine k_join (hd := 58) (cells2 := 0) (slots2 := 0) (fun (_ : Unit) => []) (fun (_ : Unit) (H : Heap) (locs : List Loc) (ls : Array Slot) => va_P D vwCl [(aw, .inl (cI, 2179, .inl fw)), (aP, .inl (cB, 400, .inl ft)), (h, oX11 0 aw ai ab ac hi re aP 0 0 ta be de fa a5 sp av an ak ne aW aC ag aT aN aF)] H ∧ va_D A [(aw, .inl (cI, 2179, .inl fw)), (aP, .inl (cB, 400, .inl ft)), (h, oX11 0 aw ai ab ac hi re aP 0 0 ta be de fa a5 sp av an ak ne aW aC ag aT aN aF)] ∧ va_S A s.heap H locs ∧ lv_has ls 8 [(4, .int y445), (3, .int y446), (0, .ref h), (1, .int a1), (2, .int b1)]) (fun u H locs ls hI => ?_) (fun hJ58 => ?_)
      · skip
        clear hP hD hS hl
        obtain ⟨hP, hD, hS, hl⟩ := hI
        have hP : va_P D vwCl [(aw, .inl (cI, 2179, .inl fw)), (aP, .inl (cB, 400, .inl ft)), (h, oX11 0 aw ai ab ac hi re aP 0 0 ta be de fa a5 sp av an ak ne aW aC ag aT aN aF)] H := hP
        have hD : va_D A [(aw, .inl (cI, 2179, .inl fw)), (aP, .inl (cB, 400, .inl ft)), (h, oX11 0 aw ai ab ac hi re aP 0 0 ta be de fa a5 sp av an ak ne aW aC ag aT aN aF)] := hD
        have hl : lv_has ls 8 [(4, .int y445), (3, .int y446), (0, .ref h), (1, .int a1), (2, .int b1)] := hl
        refine lv_iconst (v := 0) hx hb dX11_home_58 (by decide) ?_
        refine lv_istore_n (lv' := [(3, .int 0), (4, .int y445), (0, .ref h), (1, .int a1), (2, .int b1)]) hx hb dX11_home_59 rfl hl (by decide) rfl (fun ls hl => ?_)
        obtain ⟨x12917, ex12917⟩ : ∃ y : Int32, y = y445 + 1 := ⟨_, rfl⟩
        refine lv_iinc (v := x12917) (lv' := [(4, .int x12917), (3, .int 0), (0, .ref h), (1, .int a1), (2, .int b1)]) hx hb dX11_home_60 hl (k := 1) rfl (by rw [ex12917]; rfl) (by decide) rfl (fun ls hl => ?_)
        have k12918 : Rg x12917 1 10 := rg_add ex12917 k12906 (rg_lit (n := 1) (by decide)) (by decide)
        refine lv_goto (tgt := 24) hx hb dX11_home_63 (by decide) ?_
        exact ih447 (x12917, (0 : Int32)) _ _ _ (by show (10 - (x12917).toInt).toNat < (10 - (y445).toInt).toNat; exact mu_up ex12917 k12906 k12918 (by decide)) ⟨(rg_w k12918 (by decide)), (rg_w (rg_lit (n := 0) (by decide)) (by decide)), hP.sub (ws' := [(aw, .inl (cI, 2179, .inl fw)), (aP, .inl (cB, 400, .inl ft)), (h, oX11 0 aw ai ab ac hi re aP 0 0 ta be de fa a5 sp av an ak ne aW aC ag aT aN aF)]) [0, 1, 2] rfl, hD.sub (ws' := [(aw, .inl (cI, 2179, .inl fw)), (aP, .inl (cB, 400, .inl ft)), (h, oX11 0 aw ai ab ac hi re aP 0 0 ta be de fa a5 sp av an ak ne aW aC ag aT aN aF)]) [0, 1, 2] (by decide) rfl, hS, lv_sub (l' := [(4, .int x12917), (3, .int 0), (0, .ref h), (1, .int a1), (2, .int b1)]) hl [0, 1, 2, 3, 4] rfl⟩
      refine lv_if_eq (tgt := 58) hx hb dX11_home_34 (by decide) (fun c12919 => ?_) (fun c12919 => ?_)
      · skip
        have k12920 : Rg y446 0 0 := rg_q1 (eqI c12919) hy446 (rg_lit (n := 0) (by decide)) (by decide)
        exact hJ58 () _ _ _ ⟨hP.sub (ws' := [(aw, .inl (cI, 2179, .inl fw)), (aP, .inl (cB, 400, .inl ft)), (h, oX11 0 aw ai ab ac hi re aP 0 0 ta be de fa a5 sp av an ak ne aW aC ag aT aN aF)]) [0, 1, 2] rfl, hD.sub (ws' := [(aw, .inl (cI, 2179, .inl fw)), (aP, .inl (cB, 400, .inl ft)), (h, oX11 0 aw ai ab ac hi re aP 0 0 ta be de fa a5 sp av an ak ne aW aC ag aT aN aF)]) [0, 1, 2] (by decide) rfl, hS, lv_sub (l' := [(4, .int y445), (3, .int y446), (0, .ref h), (1, .int a1), (2, .int b1)]) hl [0, 1, 2, 3, 4] rfl⟩
      · skip
        have k12921 : Rg y446 1 1 := rg_n1 (neI c12919) hy446 (rg_lit (n := 0) (by decide)) (by decide)
        refine lv_aload_n hx hb dX11_home_37 rfl (lv_at hl 2 rfl) ?_
        refine lv_aload_n hx hb dX11_home_38 rfl (lv_at hl 2 rfl) ?_
        refine va_get (D := D) (ci := 10) (v := .ref aP) (C := RX11) (T := TX11) (N := 26) hx hb hts iG_X11 hown hK hP 2 rfl rfl 7 (by decide) (hts _ w5_8) (fun _ h9 => h9) rfl dX11_home_39 ?_
        refine lv_iload hx hb dX11_home_42 (lv_at hl 0 rfl) ?_
        refine va_bald hx hb hK hP 1 2 rfl rfl (rg_in k12906 (by decide)) dX11_home_44 ?_
        refine lv_topi (fun x12922 ex12922 => ?_)
        clear ex12922
        refine lv_bipush (v := 48) hx hb dX11_home_45 (by decide) ?_
        refine lv_isub hx hb dX11_home_47 ?_
        refine lv_topi (fun x12923 ex12923 => ?_)
        clear ex12923
        refine kpurei (wc := [(h, oX11 0 aw ai ab ac hi re aP 0 0 ta be de fa a5 sp av an ak ne aW aC ag aT aN aF), (aw, .inl (cI, 2179, .inl fw))]) hP hD hS hA [2, 0] rfl (by decide) (fun hPc hDc hFc => va_runV (As := [.int x12923]) (rest := []) ⟨hx, hb, hml, hown, hts⟩ (r_noMan l D cI cJ cB cC h 0 aw ai ab ac hi re aP 0 0 ta be de fa a5 sp av an ak ne aW aC ag aT aN aF fw x12923 H.size H_fw_W) (cwV 1 hts gX11_home_X11_noMan rfl rfl rfl ⟨rfl, hdX11_noMan⟩ ⟨Nat.le_of_ble_eq_true rfl, Nat.le_of_ble_eq_true rfl⟩) ⟨kBlind, va_recv hK hPc (ci := 10) (q0 := 0) rfl rfl, fun U hU hW => ⟨rfl, by rw [hU], hN.warm hW, hE.pass hS hFc hW hU, by rw [hU]; exact hPc, va_K.moved hW.alike hK, hDc⟩⟩ rfl rfl hl.1 rfl (lv_room (Nat.le_of_ble_eq_true rfl)) dX11_home_48 ⟨Nat.le_of_ble_eq_true rfl, Nat.le_of_ble_eq_true rfl⟩) (fun r12924 u H locs hw hP hS => ?_)
        rcases hw with ⟨rfl, kc12925_0, kc12925_1⟩ | rfl
        · skip
          refine lv_if_ne (tgt := 58) hx hb dX11_home_51 (by decide) (fun c12926 => absurd (by decide) c12926) (fun _ => ?_)
          refine lv_iconst (v := 1) hx hb dX11_home_54 (by decide) ?_
          refine lv_goto (tgt := 59) hx hb dX11_home_55 (by decide) ?_
          refine lv_istore_n (lv' := [(3, .int 1), (4, .int y445), (0, .ref h), (1, .int a1), (2, .int b1)]) hx hb dX11_home_59 rfl hl (by decide) rfl (fun ls hl => ?_)
          obtain ⟨x12927, ex12927⟩ : ∃ y : Int32, y = y445 + 1 := ⟨_, rfl⟩
          refine lv_iinc (v := x12927) (lv' := [(4, .int x12927), (3, .int 1), (0, .ref h), (1, .int a1), (2, .int b1)]) hx hb dX11_home_60 hl (k := 1) rfl (by rw [ex12927]; rfl) (by decide) rfl (fun ls hl => ?_)
          have k12928 : Rg x12927 1 10 := rg_add ex12927 k12906 (rg_lit (n := 1) (by decide)) (by decide)
          refine lv_goto (tgt := 24) hx hb dX11_home_63 (by decide) ?_
          exact ih447 (x12927, (1 : Int32)) _ _ _ (by show (10 - (x12927).toInt).toNat < (10 - (y445).toInt).toNat; exact mu_up ex12927 k12906 k12928 (by decide)) ⟨(rg_w k12928 (by decide)), (rg_w (rg_lit (n := 1) (by decide)) (by decide)), hP.sub (ws' := [(aw, .inl (cI, 2179, .inl fw)), (aP, .inl (cB, 400, .inl ft)), (h, oX11 0 aw ai ab ac hi re aP 0 0 ta be de fa a5 sp av an ak ne aW aC ag aT aN aF)]) [0, 1, 2] rfl, hD.sub (ws' := [(aw, .inl (cI, 2179, .inl fw)), (aP, .inl (cB, 400, .inl ft)), (h, oX11 0 aw ai ab ac hi re aP 0 0 ta be de fa a5 sp av an ak ne aW aC ag aT aN aF)]) [0, 1, 2] (by decide) rfl, hS, lv_sub (l' := [(4, .int x12927), (3, .int 1), (0, .ref h), (1, .int a1), (2, .int b1)]) hl [0, 1, 2, 3, 4] rfl⟩
        · skip
          refine lv_if_ne (tgt := 58) hx hb dX11_home_51 (by decide) (fun _ => ?_) (fun c12929 => absurd c12929 (by decide))
          exact hJ58 () _ _ _ ⟨hP.sub (ws' := [(aw, .inl (cI, 2179, .inl fw)), (aP, .inl (cB, 400, .inl ft)), (h, oX11 0 aw ai ab ac hi re aP 0 0 ta be de fa a5 sp av an ak ne aW aC ag aT aN aF)]) [0, 1, 2] rfl, hD.sub (ws' := [(aw, .inl (cI, 2179, .inl fw)), (aP, .inl (cB, 400, .inl ft)), (h, oX11 0 aw ai ab ac hi re aP 0 0 ta be de fa a5 sp av an ak ne aW aC ag aT aN aF)]) [0, 1, 2] (by decide) rfl, hS, lv_sub (l' := [(4, .int y445), (3, .int y446), (0, .ref h), (1, .int a1), (2, .int b1)]) hl [0, 1, 2, 3, 4] rfl⟩

