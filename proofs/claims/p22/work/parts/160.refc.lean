def kwX11_home : List Cond := .code yX11_home cX11_home 8 (some .int) :: kG
theorem hdX11_home : yX11_home.cls ≠ "java/lang/invoke/MethodHandle" ∧ yX11_home.cls ≠ "java/lang/invoke/VarHandle" ∧ (parseMethodDescriptor yX11_home.desc).map (fun d => d.parameters.length) = some 2 := by decide +kernel
theorem gX11_home_X11_has : GoodIn kG (va_wsS RX11 310 yX11_has kwX11_has) := gK w37_11 (gK w37_12 (gK w0_5 (gK w37_13 gGG)))
theorem gX11_home_X11_men : GoodIn kG (wsV RX11 71 RX11 yX11_men kwX11_men) := gK w19_17 (gK w19_18 (gK w19_19 (gK w0_5 (gK w19_20 gGG))))
theorem gX11_home_X11_noMan : GoodIn kG (wsV RX11 280 RX11 yX11_noMan kwX11_noMan) := gK w27_4 (gK w27_5 (gK w27_6 (gK w0_5 (gK w27_7 gGG))))
theorem gX11_home_X11_passed : GoodIn kG (wsV RX11 346 RX11 yX11_passed kwX11_passed) := gK w46_12 (gK w46_13 (gK w46_14 (gK w0_5 (gK w46_15 gGG))))
theorem gX11_home_X11_throwsIf : GoodIn kG (wsV RX11 258 RX11 yX11_throwsIf kwX11_throwsIf) := gK w23_6 (gK w23_7 (gK w23_8 (gK w0_5 (gK w23_9 gGG))))
theorem gX11_home_X11_uses : GoodIn kG (wsV RX11 247 RX11 yX11_uses kwX11_uses) := gK w18_7 (gK w18_8 (gK w18_9 (gK w0_5 (gK w18_10 gGG))))
theorem dX11_home_0 : decode cX11_home 0 = .ok (.aload_n 0, 1) := by decide +kernel
theorem dX11_home_1 : decode cX11_home 1 = .ok (.invokevirtual 247, 3) := by decide +kernel
theorem dX11_home_4 : decode cX11_home 4 = .ok (.aload_n 0, 1) := by decide +kernel
theorem dX11_home_5 : decode cX11_home 5 = .ok (.getfield 89, 3) := by decide +kernel
theorem dX11_home_8 : decode cX11_home 8 = .ok (.aload_n 0, 1) := by decide +kernel
theorem dX11_home_9 : decode cX11_home 9 = .ok (.invokevirtual 71, 3) := by decide +kernel
theorem dX11_home_12 : decode cX11_home 12 = .ok (.if_icmp .ne 7, 3) := by decide +kernel
theorem dX11_home_15 : decode cX11_home 15 = .ok (.iconst 1, 1) := by decide +kernel
theorem dX11_home_16 : decode cX11_home 16 = .ok (.goto 4, 3) := by decide +kernel
theorem dX11_home_19 : decode cX11_home 19 = .ok (.iconst 0, 1) := by decide +kernel
theorem dX11_home_20 : decode cX11_home 20 = .ok (.istore_n 3, 1) := by decide +kernel
theorem dX11_home_21 : decode cX11_home 21 = .ok (.iconst 0, 1) := by decide +kernel
theorem dX11_home_22 : decode cX11_home 22 = .ok (.istore 4, 2) := by decide +kernel
theorem dX11_home_24 : decode cX11_home 24 = .ok (.iload 4, 2) := by decide +kernel
theorem dX11_home_26 : decode cX11_home 26 = .ok (.aload_n 0, 1) := by decide +kernel
theorem dX11_home_27 : decode cX11_home 27 = .ok (.getfield 89, 3) := by decide +kernel
theorem dX11_home_30 : decode cX11_home 30 = .ok (.if_icmp .ge 36, 3) := by decide +kernel
theorem dX11_home_33 : decode cX11_home 33 = .ok (.iload_n 3, 1) := by decide +kernel
theorem dX11_home_34 : decode cX11_home 34 = .ok (.ifCond .eq 24, 3) := by decide +kernel
theorem dX11_home_37 : decode cX11_home 37 = .ok (.aload_n 0, 1) := by decide +kernel
theorem dX11_home_38 : decode cX11_home 38 = .ok (.aload_n 0, 1) := by decide +kernel
theorem dX11_home_39 : decode cX11_home 39 = .ok (.getfield 26, 3) := by decide +kernel
theorem dX11_home_42 : decode cX11_home 42 = .ok (.iload 4, 2) := by decide +kernel
theorem dX11_home_44 : decode cX11_home 44 = .ok (.baload, 1) := by decide +kernel
theorem dX11_home_45 : decode cX11_home 45 = .ok (.bipush 48, 2) := by decide +kernel
theorem dX11_home_47 : decode cX11_home 47 = .ok (.isub, 1) := by decide +kernel
theorem dX11_home_48 : decode cX11_home 48 = .ok (.invokevirtual 280, 3) := by decide +kernel
theorem dX11_home_51 : decode cX11_home 51 = .ok (.ifCond .ne 7, 3) := by decide +kernel
theorem dX11_home_54 : decode cX11_home 54 = .ok (.iconst 1, 1) := by decide +kernel
theorem dX11_home_55 : decode cX11_home 55 = .ok (.goto 4, 3) := by decide +kernel
theorem dX11_home_58 : decode cX11_home 58 = .ok (.iconst 0, 1) := by decide +kernel
theorem dX11_home_59 : decode cX11_home 59 = .ok (.istore_n 3, 1) := by decide +kernel
theorem dX11_home_60 : decode cX11_home 60 = .ok (.iinc 4 1, 3) := by decide +kernel
theorem dX11_home_63 : decode cX11_home 63 = .ok (.goto (-39), 3) := by decide +kernel
theorem dX11_home_66 : decode cX11_home 66 = .ok (.aload_n 0, 1) := by decide +kernel
theorem dX11_home_67 : decode cX11_home 67 = .ok (.aload_n 0, 1) := by decide +kernel
theorem dX11_home_68 : decode cX11_home 68 = .ok (.iload_n 1, 1) := by decide +kernel
theorem dX11_home_69 : decode cX11_home 69 = .ok (.invokevirtual 280, 3) := by decide +kernel
theorem dX11_home_72 : decode cX11_home 72 = .ok (.ifCond .ne 11, 3) := by decide +kernel
theorem dX11_home_75 : decode cX11_home 75 = .ok (.aload_n 0, 1) := by decide +kernel
theorem dX11_home_76 : decode cX11_home 76 = .ok (.iload_n 2, 1) := by decide +kernel
theorem dX11_home_77 : decode cX11_home 77 = .ok (.invokevirtual 280, 3) := by decide +kernel
theorem dX11_home_80 : decode cX11_home 80 = .ok (.ifCond .eq 7, 3) := by decide +kernel
theorem dX11_home_83 : decode cX11_home 83 = .ok (.iconst 1, 1) := by decide +kernel
theorem dX11_home_84 : decode cX11_home 84 = .ok (.goto 4, 3) := by decide +kernel
theorem dX11_home_87 : decode cX11_home 87 = .ok (.iconst 0, 1) := by decide +kernel
theorem dX11_home_88 : decode cX11_home 88 = .ok (.iconst 1, 1) := by decide +kernel
theorem dX11_home_89 : decode cX11_home 89 = .ok (.invokevirtual 258, 3) := by decide +kernel
theorem dX11_home_92 : decode cX11_home 92 = .ok (.ifCond .ne 20, 3) := by decide +kernel
theorem dX11_home_95 : decode cX11_home 95 = .ok (.aload_n 0, 1) := by decide +kernel
theorem dX11_home_96 : decode cX11_home 96 = .ok (.iload_n 3, 1) := by decide +kernel
theorem dX11_home_97 : decode cX11_home 97 = .ok (.ifCond .ne 7, 3) := by decide +kernel
theorem dX11_home_100 : decode cX11_home 100 = .ok (.iconst 1, 1) := by decide +kernel
theorem dX11_home_101 : decode cX11_home 101 = .ok (.goto 4, 3) := by decide +kernel
theorem dX11_home_104 : decode cX11_home 104 = .ok (.iconst 0, 1) := by decide +kernel
theorem dX11_home_105 : decode cX11_home 105 = .ok (.iconst 2, 1) := by decide +kernel
theorem dX11_home_106 : decode cX11_home 106 = .ok (.invokevirtual 258, 3) := by decide +kernel
theorem dX11_home_109 : decode cX11_home 109 = .ok (.ifCond .eq 5, 3) := by decide +kernel
theorem dX11_home_112 : decode cX11_home 112 = .ok (.iconst 0, 1) := by decide +kernel
theorem dX11_home_113 : decode cX11_home 113 = .ok (.ireturn, 1) := by decide +kernel
theorem dX11_home_114 : decode cX11_home 114 = .ok (.aload_n 0, 1) := by decide +kernel
theorem dX11_home_115 : decode cX11_home 115 = .ok (.iconst 1, 1) := by decide +kernel
theorem dX11_home_116 : decode cX11_home 116 = .ok (.iload_n 1, 1) := by decide +kernel
theorem dX11_home_117 : decode cX11_home 117 = .ok (.ishl, 1) := by decide +kernel
theorem dX11_home_118 : decode cX11_home 118 = .ok (.invokevirtual 346, 3) := by decide +kernel
theorem dX11_home_121 : decode cX11_home 121 = .ok (.istore 4, 2) := by decide +kernel
theorem dX11_home_123 : decode cX11_home 123 = .ok (.iconst 0, 1) := by decide +kernel
theorem dX11_home_124 : decode cX11_home 124 = .ok (.istore 5, 2) := by decide +kernel
theorem dX11_home_126 : decode cX11_home 126 = .ok (.iload 5, 2) := by decide +kernel
theorem dX11_home_128 : decode cX11_home 128 = .ok (.bipush 30, 2) := by decide +kernel
theorem dX11_home_130 : decode cX11_home 130 = .ok (.if_icmp .gt 81, 3) := by decide +kernel
theorem dX11_home_133 : decode cX11_home 133 = .ok (.iload 4, 2) := by decide +kernel
theorem dX11_home_135 : decode cX11_home 135 = .ok (.iload_n 2, 1) := by decide +kernel
theorem dX11_home_136 : decode cX11_home 136 = .ok (.invokestatic 310, 3) := by decide +kernel
theorem dX11_home_139 : decode cX11_home 139 = .ok (.ifCond .eq 6, 3) := by decide +kernel
theorem dX11_home_142 : decode cX11_home 142 = .ok (.iload 5, 2) := by decide +kernel
theorem dX11_home_144 : decode cX11_home 144 = .ok (.ireturn, 1) := by decide +kernel
theorem dX11_home_145 : decode cX11_home 145 = .ok (.iconst 0, 1) := by decide +kernel
theorem dX11_home_146 : decode cX11_home 146 = .ok (.istore 6, 2) := by decide +kernel
theorem dX11_home_148 : decode cX11_home 148 = .ok (.iconst 0, 1) := by decide +kernel
theorem dX11_home_149 : decode cX11_home 149 = .ok (.istore 7, 2) := by decide +kernel
theorem dX11_home_151 : decode cX11_home 151 = .ok (.iload 7, 2) := by decide +kernel
theorem dX11_home_153 : decode cX11_home 153 = .ok (.aload_n 0, 1) := by decide +kernel
theorem dX11_home_154 : decode cX11_home 154 = .ok (.invokevirtual 71, 3) := by decide +kernel
theorem dX11_home_157 : decode cX11_home 157 = .ok (.if_icmp .ge 40, 3) := by decide +kernel
theorem dX11_home_160 : decode cX11_home 160 = .ok (.iload 6, 2) := by decide +kernel
theorem dX11_home_162 : decode cX11_home 162 = .ok (.iload 4, 2) := by decide +kernel
theorem dX11_home_164 : decode cX11_home 164 = .ok (.iload 7, 2) := by decide +kernel
theorem dX11_home_166 : decode cX11_home 166 = .ok (.invokestatic 310, 3) := by decide +kernel
theorem dX11_home_169 : decode cX11_home 169 = .ok (.ifCond .eq 18, 3) := by decide +kernel
theorem dX11_home_172 : decode cX11_home 172 = .ok (.iconst 1, 1) := by decide +kernel
theorem dX11_home_173 : decode cX11_home 173 = .ok (.aload_n 0, 1) := by decide +kernel
theorem dX11_home_174 : decode cX11_home 174 = .ok (.getfield 26, 3) := by decide +kernel
theorem dX11_home_177 : decode cX11_home 177 = .ok (.iload 7, 2) := by decide +kernel
theorem dX11_home_179 : decode cX11_home 179 = .ok (.baload, 1) := by decide +kernel
theorem dX11_home_180 : decode cX11_home 180 = .ok (.bipush 48, 2) := by decide +kernel
theorem dX11_home_182 : decode cX11_home 182 = .ok (.isub, 1) := by decide +kernel
theorem dX11_home_183 : decode cX11_home 183 = .ok (.ishl, 1) := by decide +kernel
theorem dX11_home_184 : decode cX11_home 184 = .ok (.goto 4, 3) := by decide +kernel
theorem dX11_home_187 : decode cX11_home 187 = .ok (.iconst 0, 1) := by decide +kernel
theorem dX11_home_188 : decode cX11_home 188 = .ok (.ior, 1) := by decide +kernel
theorem dX11_home_189 : decode cX11_home 189 = .ok (.istore 6, 2) := by decide +kernel
theorem dX11_home_191 : decode cX11_home 191 = .ok (.iinc 7 1, 3) := by decide +kernel
theorem dX11_home_194 : decode cX11_home 194 = .ok (.goto (-43), 3) := by decide +kernel
theorem dX11_home_197 : decode cX11_home 197 = .ok (.aload_n 0, 1) := by decide +kernel
theorem dX11_home_198 : decode cX11_home 198 = .ok (.iload 6, 2) := by decide +kernel
theorem dX11_home_200 : decode cX11_home 200 = .ok (.invokevirtual 346, 3) := by decide +kernel
theorem dX11_home_203 : decode cX11_home 203 = .ok (.istore 4, 2) := by decide +kernel
theorem dX11_home_205 : decode cX11_home 205 = .ok (.iinc 5 1, 3) := by decide +kernel
theorem dX11_home_208 : decode cX11_home 208 = .ok (.goto (-82), 3) := by decide +kernel
theorem dX11_home_211 : decode cX11_home 211 = .ok (.iconst (-1), 1) := by decide +kernel
theorem dX11_home_212 : decode cX11_home 212 = .ok (.ireturn, 1) := by decide +kernel
set_option maxHeartbeats 4000000 in
set_option maxRecDepth 100000 in
/-- reference: home -/
theorem r_home (l : Launch) (D : va_G) (cI cJ cB cC : ClassId) (h : Nat) (th : Int32) (aw : Nat) (ai : Nat) (ab : Nat) (ac : Nat) (hi : Int32) (re : Int32) (aP : Nat) (ta : Int32) (po : Int32) (en : Int32) (be : Int32) (de : Int32) (fa : Int32) (a5 : Nat) (sp : Int32) (av : Nat) (an : Nat) (ak : Nat) (ne : Int32) (aW : Nat) (aC : Nat) (ag : Nat) (aT : Nat) (aN : Nat) (aF : Nat) (fw : Nat → Int32) (ft : Nat → Int32) (a1 : Int32) (b1 : Int32) (sz : Nat) (H_ta : Rg ta 0 400) (H_fw_W : wW fw) : Met l yX11_home kwX11_home ({ frames := 3, cells := 0, slots := 0, locals := 68 } : Room) (kPre D (kT cI cJ cB cC) sz [(h, oX11 th aw ai ab ac hi re aP ta po en be de fa a5 sp av an ak ne aW aC ag aT aN aF), (aw, kcI cI 2179 fw), (aP, .inl (cB, 400, .inl ft))] [.ref h, .int a1, .int b1]) (va_Qi (fun (r : Int32) (uu : Int32 × Int32) => match uu with | (n0_, n1_) => Rg n1_ 0 400 ∧ Rg r (-1) 30 ∧ F_r_home (ta : Int32).toInt (gT fw) (gT ft) (a1 : Int32).toInt (b1 : Int32).toInt = ((r : Int32).toInt, (n0_ : Int32).toInt, (n1_ : Int32).toInt)) (fun (uu : Int32 × Int32) (t : State) => match uu with | (n0_, n1_) => kB D (kT cI cJ cB cC) (va_A [(h, oX11 th aw ai ab ac hi re aP ta po en be de fa a5 sp av an ak ne aW aC ag aT aN aF), (aw, kcI cI 2179 fw), (aP, .inl (cB, 400, .inl ft))] sz) [(h, oX11 n0_ aw ai ab ac hi re aP 0 0 n1_ be de fa a5 sp av an ak ne aW aC ag aT aN aF), (aw, kcI cI 2179 fw), (aP, .inl (cB, 400, .inl ft))] t) (va_A [(h, oX11 th aw ai ab ac hi re aP ta po en be de fa a5 sp av an ak ne aW aC ag aT aN aF), (aw, kcI cI 2179 fw), (aP, .inl (cB, 400, .inl ft))] sz)) 0 0 (va_A [(h, oX11 th aw ai ab ac hi re aP ta po en be de fa a5 sp av an ak ne aW aC ag aT aN aF), (aw, kcI cI 2179 fw), (aP, .inl (cB, 400, .inl ft))] sz) := by
  refine Met.ofW (cc := cX11_home) (maxL := 8) (ret := (some .int)) (by decide) rfl ?_
  intro p e s m args below meth c s₁ B hml hv
  obtain ⟨rfl, hsz, hN, hE, hP, hK, hD0⟩ := hv
  have hx := B.exec
  have hb := B.bytes
  have hr := B.returns
  have hts := fun (w : Cond) (h : w ∈ kG) => atoms_spec (ws := kwX11_home) B.pre w (List.mem_cons_of_mem _ h)
  have hown : s.vm.findClass RX11 = some m.cls := findClass_of_methodNamed B.named
  subst hsz
  have hD := hD0.self (sz := s.heap.size)
  generalize hAe : va_A [(h, oX11 th aw ai ab ac hi re aP ta po en be de fa a5 sp av an ak ne aW aC ag aT aN aF), (aw, kcI cI 2179 fw), (aP, .inl (cB, 400, .inl ft))] s.heap.size = A at hD hE ⊢
  have hA : ∀ q : Nat, s.heap.size ≤ q → A q := fun q h => by rw [← hAe]; exact Or.inr h
  have hl := lv_entry ([.ref h, .int a1, .int b1]) (n := 8) (Nat.le_of_ble_eq_true rfl)
  rw [lg_entry_eq]
  generalize (lg_sl ([.ref h, .int a1, .int b1]) ++ List.replicate (8 - (lg_sl ([.ref h, .int a1, .int b1])).length) Slot.unset).toArray = ls at hl ⊢
  have hl : lv_has ls 8 [(0, .ref h), (1, .int a1), (2, .int b1)] := hl
  obtain ⟨H, hH0⟩ : ∃ H, H = s.heap := ⟨_, rfl⟩
  have hS : va_S A s.heap H [] := by rw [hH0]; exact va_S.rf
  have hP : va_P D vwCl [(h, oX11 th aw ai ab ac hi re aP ta po en be de fa a5 sp av an ak ne aW aC ag aT aN aF), (aw, kcI cI 2179 fw), (aP, .inl (cB, 400, .inl ft))] H := by rw [hH0]; exact hP
  refine kHeap hH0 ?_
  clear hH0
  refine lv_aload_n hx hb dX11_home_0 rfl (lv_at hl 0 rfl) ?_
  refine kcallv (wc := [(h, oX11 th aw ai ab ac hi re aP ta po en be de fa a5 sp av an ak ne aW aC ag aT aN aF)]) (wr := [(aw, kcI cI 2179 fw), (aP, .inl (cB, 400, .inl ft))]) hP hD hS hA [0] [1, 2] rfl rfl (by decide) (by decide) (by decide) (fun hPc hDc hFc => va_runV (As := []) (rest := []) ⟨hx, hb, hml, hown, hts⟩ (r_uses l D cI cJ cB cC h th aw ai ab ac hi re aP ta po en be de fa a5 sp av an ak ne aW aC ag aT aN aF H.size H_ta) (cwV 0 hts gX11_home_X11_uses rfl rfl rfl ⟨rfl, hdX11_uses⟩ ⟨Nat.le_of_ble_eq_true rfl, Nat.le_of_ble_eq_true rfl⟩) ⟨kBlind, va_recv hK hPc (ci := 10) (q0 := 0) rfl rfl, fun U hU hW => ⟨rfl, by rw [hU], hN.warm hW, hE.pass hS hFc hW hU, by rw [hU]; exact hPc, va_K.moved hW.alike hK, hDc⟩⟩ rfl rfl hl.1 rfl (lv_room (Nat.le_of_ble_eq_true rfl)) dX11_home_1 ⟨Nat.le_of_ble_eq_true rfl, Nat.le_of_ble_eq_true rfl⟩) (fun u H locs hw hP hD hS => ?_)
  have hP : va_P D vwCl [(aw, kcI cI 2179 fw), (aP, .inl (cB, 400, .inl ft)), (h, oX11 0 aw ai ab ac hi re aP 0 0 ta be de fa a5 sp av an ak ne aW aC ag aT aN aF)] H := hP
  have hD : va_D A [(aw, kcI cI 2179 fw), (aP, .inl (cB, 400, .inl ft)), (h, oX11 0 aw ai ab ac hi re aP 0 0 ta be de fa a5 sp av an ak ne aW aC ag aT aN aF)] := hD
  refine lv_aload_n hx hb dX11_home_4 rfl (lv_at hl 0 rfl) ?_
  refine va_get (D := D) (ci := 10) (v := .int ta) (C := RX11) (T := TX11) (N := 26) hx hb hts iG_X11 hown hK hP 2 rfl rfl 10 (by decide) (hts _ w18_6) (fun _ h9 => h9) rfl dX11_home_5 ?_
  refine lv_aload_n hx hb dX11_home_8 rfl (lv_at hl 0 rfl) ?_
  refine kpurei (wc := [(h, oX11 0 aw ai ab ac hi re aP 0 0 ta be de fa a5 sp av an ak ne aW aC ag aT aN aF), (aw, kcI cI 2179 fw)]) hP hD hS hA [2, 0] rfl (by decide) (fun hPc hDc hFc => va_runV (As := []) (rest := [.int ta]) ⟨hx, hb, hml, hown, hts⟩ (r_men l D cI cJ cB cC h 0 aw ai ab ac hi re aP 0 0 ta be de fa a5 sp av an ak ne aW aC ag aT aN aF fw H.size H_fw_W) (cwV 0 hts gX11_home_X11_men rfl rfl rfl ⟨rfl, hdX11_men⟩ ⟨Nat.le_of_ble_eq_true rfl, Nat.le_of_ble_eq_true rfl⟩) ⟨kBlind, va_recv hK hPc (ci := 10) (q0 := 0) rfl rfl, fun U hU hW => ⟨rfl, by rw [hU], hN.warm hW, hE.pass hS hFc hW hU, by rw [hU]; exact hPc, va_K.moved hW.alike hK, hDc⟩⟩ rfl rfl hl.1 rfl (lv_room (Nat.le_of_ble_eq_true rfl)) dX11_home_9 ⟨Nat.le_of_ble_eq_true rfl, Nat.le_of_ble_eq_true rfl⟩) (fun r1 u H locs hw hP hS => ?_)
  obtain ⟨k2, k3, k4⟩ := hw
  refine lv_icmp_ne (tgt := 19) hx hb dX11_home_12 (by decide) (fun c7 => ?_) (fun c7 => ?_)
  · skip
    refine lv_iconst (v := 0) hx hb dX11_home_19 (by decide) ?_
    refine lv_istore_n (lv' := [(3, .int 0), (0, .ref h), (1, .int a1), (2, .int b1)]) hx hb dX11_home_20 rfl hl (by decide) rfl (fun ls hl => ?_)
    refine lv_iconst (v := 0) hx hb dX11_home_21 (by decide) ?_
    refine lv_istore (lv' := [(4, .int 0), (3, .int 0), (0, .ref h), (1, .int a1), (2, .int b1)]) hx hb dX11_home_22 hl (by decide) rfl (fun ls hl => ?_)
    refine k_loop (hd := 24) (fun (y117 : Int32) => (400 - (y117).toInt).toNat) (fun (y117 : Int32) (H : Heap) (locs : List Loc) (ls : Array Slot) => (F_r_home ta.toInt (gT fw) (gT ft) a1.toInt b1.toInt = F_r_home_l1 ta.toInt (gT fw) a1.toInt b1.toInt (y117.toInt)) ∧ Rg y117 0 400 ∧ va_P D vwCl [(aw, kcI cI 2179 fw), (aP, .inl (cB, 400, .inl ft)), (h, oX11 0 aw ai ab ac hi re aP 0 0 ta be de fa a5 sp av an ak ne aW aC ag aT aN aF)] H ∧ va_D A [(aw, kcI cI 2179 fw), (aP, .inl (cB, 400, .inl ft)), (h, oX11 0 aw ai ab ac hi re aP 0 0 ta be de fa a5 sp av an ak ne aW aC ag aT aN aF)] ∧ va_S A s.heap H locs ∧ lv_has ls 8 [(4, .int y117), (3, .int 0), (0, .ref h), (1, .int a1), (2, .int b1)]) ((0 : Int32)) ⟨(kLet_eq (k4).symm (kif_f (neI c7) rfl)), (rg_w (rg_lit (n := 0) (by decide)) (by decide)), hP.sub (ws' := [(aw, kcI cI 2179 fw), (aP, .inl (cB, 400, .inl ft)), (h, oX11 0 aw ai ab ac hi re aP 0 0 ta be de fa a5 sp av an ak ne aW aC ag aT aN aF)]) [0, 1, 2] rfl, hD.sub (ws' := [(aw, kcI cI 2179 fw), (aP, .inl (cB, 400, .inl ft)), (h, oX11 0 aw ai ab ac hi re aP 0 0 ta be de fa a5 sp av an ak ne aW aC ag aT aN aF)]) [0, 1, 2] (by decide) rfl, hS, lv_sub (l' := [(4, .int 0), (3, .int 0), (0, .ref h), (1, .int a1), (2, .int b1)]) hl [0, 1, 2, 3, 4] rfl⟩ (fun u H locs ls hI ih118 => ?_)
    clear hP hD hS hl
    obtain ⟨y117, rfl⟩ : ∃ z, z = u := ⟨_, rfl⟩
    obtain ⟨hF1, hy117, hP, hD, hS, hl⟩ := hI
    have hP : va_P D vwCl [(aw, kcI cI 2179 fw), (aP, .inl (cB, 400, .inl ft)), (h, oX11 0 aw ai ab ac hi re aP 0 0 ta be de fa a5 sp av an ak ne aW aC ag aT aN aF)] H := hP
    have hD : va_D A [(aw, kcI cI 2179 fw), (aP, .inl (cB, 400, .inl ft)), (h, oX11 0 aw ai ab ac hi re aP 0 0 ta be de fa a5 sp av an ak ne aW aC ag aT aN aF)] := hD
    have hl : lv_has ls 8 [(4, .int y117), (3, .int 0), (0, .ref h), (1, .int a1), (2, .int b1)] := hl
    refine lv_iload hx hb dX11_home_24 (lv_at hl 0 rfl) ?_
    refine lv_aload_n hx hb dX11_home_26 rfl (lv_at hl 2 rfl) ?_
    refine va_get (D := D) (ci := 10) (v := .int ta) (C := RX11) (T := TX11) (N := 26) hx hb hts iG_X11 hown hK hP 2 rfl rfl 10 (by decide) (hts _ w18_6) (fun _ h9 => h9) rfl dX11_home_27 ?_
    refine lv_icmp_ge (tgt := 66) hx hb dX11_home_30 (by decide) (fun c119 => ?_) (fun c119 => ?_)
    · skip
      refine lv_aload_n hx hb dX11_home_66 rfl (lv_at hl 2 rfl) ?_
      refine lv_aload_n hx hb dX11_home_67 rfl (lv_at hl 2 rfl) ?_
      refine lv_iload_n hx hb dX11_home_68 rfl (lv_at hl 3 rfl) ?_
      refine kpurei (wc := [(h, oX11 0 aw ai ab ac hi re aP 0 0 ta be de fa a5 sp av an ak ne aW aC ag aT aN aF), (aw, kcI cI 2179 fw)]) hP hD hS hA [2, 0] rfl (by decide) (fun hPc hDc hFc => va_runV (As := [.int a1]) (rest := [.ref h]) ⟨hx, hb, hml, hown, hts⟩ (r_noMan l D cI cJ cB cC h 0 aw ai ab ac hi re aP 0 0 ta be de fa a5 sp av an ak ne aW aC ag aT aN aF fw a1 H.size H_fw_W) (cwV 1 hts gX11_home_X11_noMan rfl rfl rfl ⟨rfl, hdX11_noMan⟩ ⟨Nat.le_of_ble_eq_true rfl, Nat.le_of_ble_eq_true rfl⟩) ⟨kBlind, va_recv hK hPc (ci := 10) (q0 := 0) rfl rfl, fun U hU hW => ⟨rfl, by rw [hU], hN.warm hW, hE.pass hS hFc hW hU, by rw [hU]; exact hPc, va_K.moved hW.alike hK, hDc⟩⟩ rfl rfl hl.1 rfl (lv_room (Nat.le_of_ble_eq_true rfl)) dX11_home_69 ⟨Nat.le_of_ble_eq_true rfl, Nat.le_of_ble_eq_true rfl⟩) (fun r120 u H locs hw hP hS => ?_)
      obtain ⟨k121, hw⟩ := hw
      rcases hw with ⟨rfl, kc122_0, kc122_1⟩ | rfl
      · skip
        refine lv_if_ne (tgt := 83) hx hb dX11_home_72 (by decide) (fun c129 => absurd (by decide) c129) (fun _ => ?_)
        refine lv_aload_n hx hb dX11_home_75 rfl (lv_at hl 2 rfl) ?_
        refine lv_iload_n hx hb dX11_home_76 rfl (lv_at hl 4 rfl) ?_
        refine kpurei (wc := [(h, oX11 0 aw ai ab ac hi re aP 0 0 ta be de fa a5 sp av an ak ne aW aC ag aT aN aF), (aw, kcI cI 2179 fw)]) hP hD hS hA [2, 0] rfl (by decide) (fun hPc hDc hFc => va_runV (As := [.int b1]) (rest := [.ref h]) ⟨hx, hb, hml, hown, hts⟩ (r_noMan l D cI cJ cB cC h 0 aw ai ab ac hi re aP 0 0 ta be de fa a5 sp av an ak ne aW aC ag aT aN aF fw b1 H.size H_fw_W) (cwV 1 hts gX11_home_X11_noMan rfl rfl rfl ⟨rfl, hdX11_noMan⟩ ⟨Nat.le_of_ble_eq_true rfl, Nat.le_of_ble_eq_true rfl⟩) ⟨kBlind, va_recv hK hPc (ci := 10) (q0 := 0) rfl rfl, fun U hU hW => ⟨rfl, by rw [hU], hN.warm hW, hE.pass hS hFc hW hU, by rw [hU]; exact hPc, va_K.moved hW.alike hK, hDc⟩⟩ rfl rfl hl.1 rfl (lv_room (Nat.le_of_ble_eq_true rfl)) dX11_home_77 ⟨Nat.le_of_ble_eq_true rfl, Nat.le_of_ble_eq_true rfl⟩) (fun r130 u H locs hw hP hS => ?_)
        obtain ⟨k131, hw⟩ := hw
        rcases hw with ⟨rfl, kc132_0, kc132_1⟩ | rfl
        · skip
          refine lv_if_eq (tgt := 87) hx hb dX11_home_80 (by decide) (fun _ => ?_) (fun c133 => absurd (by decide) c133)
          refine lv_iconst (v := 0) hx hb dX11_home_87 (by decide) ?_
          refine lv_iconst (v := 1) hx hb dX11_home_88 (by decide) ?_
          refine kpurei (wc := [(h, oX11 0 aw ai ab ac hi re aP 0 0 ta be de fa a5 sp av an ak ne aW aC ag aT aN aF)]) hP hD hS hA [2] rfl (by decide) (fun hPc hDc hFc => va_runV (As := [.int 0, .int 1]) (rest := []) ⟨hx, hb, hml, hown, hts⟩ (r_throwsIf0_1 l D cI cJ cB cC h 0 aw ai ab ac hi re aP 0 0 ta be de fa a5 sp av an ak ne aW aC ag aT aN aF 1 H.size) (cwV 2 hts gX11_home_X11_throwsIf rfl rfl rfl ⟨rfl, hdX11_throwsIf⟩ ⟨Nat.le_of_ble_eq_true rfl, Nat.le_of_ble_eq_true rfl⟩) ⟨kBlind, va_recv hK hPc (ci := 10) (q0 := 0) rfl rfl, fun U hU hW => ⟨rfl, by rw [hU], hN.warm hW, hE.pass hS hFc hW hU, by rw [hU]; exact hPc, va_K.moved hW.alike hK, hDc⟩⟩ rfl rfl hl.1 rfl (lv_room (Nat.le_of_ble_eq_true rfl)) dX11_home_89 ⟨Nat.le_of_ble_eq_true rfl, Nat.le_of_ble_eq_true rfl⟩) (fun r134 u H locs hw hP hS => ?_)
          obtain ⟨k135, k136⟩ := hw
          refine lv_if_ne (tgt := 112) hx hb dX11_home_92 (by decide) (fun c144 => absurd (rg_eq k135 (rg_lit (n := 0) (by decide)) (by decide)) c144) (fun _ => ?_)
          refine lv_aload_n hx hb dX11_home_95 rfl (lv_at hl 2 rfl) ?_
          refine lv_iload_n hx hb dX11_home_96 rfl (lv_at hl 1 rfl) ?_
          refine lv_if_ne (tgt := 104) hx hb dX11_home_97 (by decide) (fun c146 => absurd (by decide) c146) (fun _ => ?_)
          refine lv_iconst (v := 1) hx hb dX11_home_100 (by decide) ?_
          refine lv_goto (tgt := 105) hx hb dX11_home_101 (by decide) ?_
          refine lv_iconst (v := 2) hx hb dX11_home_105 (by decide) ?_
          refine kcalli (wc := [(h, oX11 0 aw ai ab ac hi re aP 0 0 ta be de fa a5 sp av an ak ne aW aC ag aT aN aF)]) (wr := [(aw, kcI cI 2179 fw), (aP, .inl (cB, 400, .inl ft))]) hP hD hS hA [2] [0, 1] rfl rfl (by decide) (by decide) (by decide) (fun hPc hDc hFc => va_runV (As := [.int 1, .int 2]) (rest := []) ⟨hx, hb, hml, hown, hts⟩ (r_throwsIf1_1 l D cI cJ cB cC h 0 aw ai ab ac hi re aP 0 0 ta be de fa a5 sp av an ak ne aW aC ag aT aN aF 2 H.size) (cwV 2 hts gX11_home_X11_throwsIf rfl rfl rfl ⟨rfl, hdX11_throwsIf⟩ ⟨Nat.le_of_ble_eq_true rfl, Nat.le_of_ble_eq_true rfl⟩) ⟨kBlind, va_recv hK hPc (ci := 10) (q0 := 0) rfl rfl, fun U hU hW => ⟨rfl, by rw [hU], hN.warm hW, hE.pass hS hFc hW hU, by rw [hU]; exact hPc, va_K.moved hW.alike hK, hDc⟩⟩ rfl rfl hl.1 rfl (lv_room (Nat.le_of_ble_eq_true rfl)) dX11_home_106 ⟨Nat.le_of_ble_eq_true rfl, Nat.le_of_ble_eq_true rfl⟩) (fun r147 u H locs hw hP hD hS => ?_)
          obtain ⟨x148, rfl⟩ : ∃ z, z = u := ⟨_, rfl⟩
          have hP : va_P D vwCl [(aw, kcI cI 2179 fw), (aP, .inl (cB, 400, .inl ft)), (h, oX11 x148 aw ai ab ac hi re aP 0 0 ta be de fa a5 sp av an ak ne aW aC ag aT aN aF)] H := hP
          have hD : va_D A [(aw, kcI cI 2179 fw), (aP, .inl (cB, 400, .inl ft)), (h, oX11 x148 aw ai ab ac hi re aP 0 0 ta be de fa a5 sp av an ak ne aW aC ag aT aN aF)] := hD
          obtain ⟨k149, k150⟩ := hw
          refine lv_if_eq (tgt := 114) hx hb dX11_home_109 (by decide) (fun c151 => absurd c151 (rg_neq k149 (rg_lit (n := 0) (by decide)) (by decide))) (fun _ => ?_)
          refine lv_iconst (v := 0) hx hb dX11_home_112 (by decide) ?_
          have hP9 := hP.sub (ws' := [(h, oX11 x148 aw ai ab ac hi re aP 0 0 ta be de fa a5 sp av an ak ne aW aC ag aT aN aF), (aw, kcI cI 2179 fw), (aP, .inl (cB, 400, .inl ft))]) [2, 0, 1] rfl
          have hD9 := hD.sub (ws' := [(h, oX11 x148 aw ai ab ac hi re aP 0 0 ta be de fa a5 sp av an ak ne aW aC ag aT aN aF), (aw, kcI cI 2179 fw), (aP, .inl (cB, 400, .inl ft))]) [2, 0, 1] (by decide) rfl
          exact W.iret (v := 0) hx hb hr (fun t ht hW => ⟨⟨0, (x148, ta), rfl, ⟨H_ta, (rg_w (rg_lit (n := 0) (by decide)) (by decide)), (hF1.trans (kIter_out (kif_t (leI c119) (kLet_eq (k121).symm (kif_t rfl (kLet_eq (k131).symm (kif_t rfl (kLet_eq (k136).symm (kC_eq k150 rfl)))))))))⟩, by rw [ht]; exact hP9, va_K.moved hW.alike hK, hD9⟩, hS.F ht⟩) hS.2.2 dX11_home_113
        · skip
          refine lv_if_eq (tgt := 87) hx hb dX11_home_80 (by decide) (fun c152 => absurd c152 (by decide)) (fun _ => ?_)
          refine lv_iconst (v := 1) hx hb dX11_home_83 (by decide) ?_
          refine lv_goto (tgt := 88) hx hb dX11_home_84 (by decide) ?_
          refine lv_iconst (v := 1) hx hb dX11_home_88 (by decide) ?_
          refine kcalli (wc := [(h, oX11 0 aw ai ab ac hi re aP 0 0 ta be de fa a5 sp av an ak ne aW aC ag aT aN aF)]) (wr := [(aw, kcI cI 2179 fw), (aP, .inl (cB, 400, .inl ft))]) hP hD hS hA [2] [0, 1] rfl rfl (by decide) (by decide) (by decide) (fun hPc hDc hFc => va_runV (As := [.int 1, .int 1]) (rest := []) ⟨hx, hb, hml, hown, hts⟩ (r_throwsIf1_1 l D cI cJ cB cC h 0 aw ai ab ac hi re aP 0 0 ta be de fa a5 sp av an ak ne aW aC ag aT aN aF 1 H.size) (cwV 2 hts gX11_home_X11_throwsIf rfl rfl rfl ⟨rfl, hdX11_throwsIf⟩ ⟨Nat.le_of_ble_eq_true rfl, Nat.le_of_ble_eq_true rfl⟩) ⟨kBlind, va_recv hK hPc (ci := 10) (q0 := 0) rfl rfl, fun U hU hW => ⟨rfl, by rw [hU], hN.warm hW, hE.pass hS hFc hW hU, by rw [hU]; exact hPc, va_K.moved hW.alike hK, hDc⟩⟩ rfl rfl hl.1 rfl (lv_room (Nat.le_of_ble_eq_true rfl)) dX11_home_89 ⟨Nat.le_of_ble_eq_true rfl, Nat.le_of_ble_eq_true rfl⟩) (fun r153 u H locs hw hP hD hS => ?_)
          obtain ⟨x154, rfl⟩ : ∃ z, z = u := ⟨_, rfl⟩
          have hP : va_P D vwCl [(aw, kcI cI 2179 fw), (aP, .inl (cB, 400, .inl ft)), (h, oX11 x154 aw ai ab ac hi re aP 0 0 ta be de fa a5 sp av an ak ne aW aC ag aT aN aF)] H := hP
          have hD : va_D A [(aw, kcI cI 2179 fw), (aP, .inl (cB, 400, .inl ft)), (h, oX11 x154 aw ai ab ac hi re aP 0 0 ta be de fa a5 sp av an ak ne aW aC ag aT aN aF)] := hD
          obtain ⟨k155, k156⟩ := hw
          refine lv_if_ne (tgt := 112) hx hb dX11_home_92 (by decide) (fun _ => ?_) (fun c158 => absurd c158 (rg_neq k155 (rg_lit (n := 0) (by decide)) (by decide)))
          refine lv_iconst (v := 0) hx hb dX11_home_112 (by decide) ?_
          have hP9 := hP.sub (ws' := [(h, oX11 x154 aw ai ab ac hi re aP 0 0 ta be de fa a5 sp av an ak ne aW aC ag aT aN aF), (aw, kcI cI 2179 fw), (aP, .inl (cB, 400, .inl ft))]) [2, 0, 1] rfl
          have hD9 := hD.sub (ws' := [(h, oX11 x154 aw ai ab ac hi re aP 0 0 ta be de fa a5 sp av an ak ne aW aC ag aT aN aF), (aw, kcI cI 2179 fw), (aP, .inl (cB, 400, .inl ft))]) [2, 0, 1] (by decide) rfl
          exact W.iret (v := 0) hx hb hr (fun t ht hW => ⟨⟨0, (x154, ta), rfl, ⟨H_ta, (rg_w (rg_lit (n := 0) (by decide)) (by decide)), (hF1.trans (kIter_out (kif_t (leI c119) (kLet_eq (k121).symm (kif_t rfl (kLet_eq (k131).symm (kif_f (by decide) (kC_eq k156 rfl))))))))⟩, by rw [ht]; exact hP9, va_K.moved hW.alike hK, hD9⟩, hS.F ht⟩) hS.2.2 dX11_home_113
      · skip
        refine lv_if_ne (tgt := 83) hx hb dX11_home_72 (by decide) (fun _ => ?_) (fun c160 => absurd c160 (by decide))
        refine lv_iconst (v := 1) hx hb dX11_home_83 (by decide) ?_
        refine lv_goto (tgt := 88) hx hb dX11_home_84 (by decide) ?_
        refine lv_iconst (v := 1) hx hb dX11_home_88 (by decide) ?_
        refine kcalli (wc := [(h, oX11 0 aw ai ab ac hi re aP 0 0 ta be de fa a5 sp av an ak ne aW aC ag aT aN aF)]) (wr := [(aw, kcI cI 2179 fw), (aP, .inl (cB, 400, .inl ft))]) hP hD hS hA [2] [0, 1] rfl rfl (by decide) (by decide) (by decide) (fun hPc hDc hFc => va_runV (As := [.int 1, .int 1]) (rest := []) ⟨hx, hb, hml, hown, hts⟩ (r_throwsIf1_1 l D cI cJ cB cC h 0 aw ai ab ac hi re aP 0 0 ta be de fa a5 sp av an ak ne aW aC ag aT aN aF 1 H.size) (cwV 2 hts gX11_home_X11_throwsIf rfl rfl rfl ⟨rfl, hdX11_throwsIf⟩ ⟨Nat.le_of_ble_eq_true rfl, Nat.le_of_ble_eq_true rfl⟩) ⟨kBlind, va_recv hK hPc (ci := 10) (q0 := 0) rfl rfl, fun U hU hW => ⟨rfl, by rw [hU], hN.warm hW, hE.pass hS hFc hW hU, by rw [hU]; exact hPc, va_K.moved hW.alike hK, hDc⟩⟩ rfl rfl hl.1 rfl (lv_room (Nat.le_of_ble_eq_true rfl)) dX11_home_89 ⟨Nat.le_of_ble_eq_true rfl, Nat.le_of_ble_eq_true rfl⟩) (fun r161 u H locs hw hP hD hS => ?_)
        obtain ⟨x162, rfl⟩ : ∃ z, z = u := ⟨_, rfl⟩
        have hP : va_P D vwCl [(aw, kcI cI 2179 fw), (aP, .inl (cB, 400, .inl ft)), (h, oX11 x162 aw ai ab ac hi re aP 0 0 ta be de fa a5 sp av an ak ne aW aC ag aT aN aF)] H := hP
        have hD : va_D A [(aw, kcI cI 2179 fw), (aP, .inl (cB, 400, .inl ft)), (h, oX11 x162 aw ai ab ac hi re aP 0 0 ta be de fa a5 sp av an ak ne aW aC ag aT aN aF)] := hD
        obtain ⟨k163, k164⟩ := hw
        refine lv_if_ne (tgt := 112) hx hb dX11_home_92 (by decide) (fun _ => ?_) (fun c166 => absurd c166 (rg_neq k163 (rg_lit (n := 0) (by decide)) (by decide)))
        refine lv_iconst (v := 0) hx hb dX11_home_112 (by decide) ?_
        have hP9 := hP.sub (ws' := [(h, oX11 x162 aw ai ab ac hi re aP 0 0 ta be de fa a5 sp av an ak ne aW aC ag aT aN aF), (aw, kcI cI 2179 fw), (aP, .inl (cB, 400, .inl ft))]) [2, 0, 1] rfl
        have hD9 := hD.sub (ws' := [(h, oX11 x162 aw ai ab ac hi re aP 0 0 ta be de fa a5 sp av an ak ne aW aC ag aT aN aF), (aw, kcI cI 2179 fw), (aP, .inl (cB, 400, .inl ft))]) [2, 0, 1] (by decide) rfl
        exact W.iret (v := 0) hx hb hr (fun t ht hW => ⟨⟨0, (x162, ta), rfl, ⟨H_ta, (rg_w (rg_lit (n := 0) (by decide)) (by decide)), (hF1.trans (kIter_out (kif_t (leI c119) (kLet_eq (k121).symm (kif_f (by decide) (kC_eq k164 rfl))))))⟩, by rw [ht]; exact hP9, va_K.moved hW.alike hK, hD9⟩, hS.F ht⟩) hS.2.2 dX11_home_113
    · skip
      have k167 : Rg y117 0 399 := rg_l1 (nleI c119) hy117 H_ta (by decide)
      have k168 : Rg ta 1 400 := rg_l2 (nleI c119) hy117 H_ta (by decide)
      refine lv_iload_n hx hb dX11_home_33 rfl (lv_at hl 1 rfl) ?_
      refine lv_if_eq (tgt := 58) hx hb dX11_home_34 (by decide) (fun _ => ?_) (fun c170 => absurd (by decide) c170)
      refine lv_iconst (v := 0) hx hb dX11_home_58 (by decide) ?_
      refine lv_istore_n (lv' := [(3, .int 0), (4, .int y117), (0, .ref h), (1, .int a1), (2, .int b1)]) hx hb dX11_home_59 rfl hl (by decide) rfl (fun ls hl => ?_)
      obtain ⟨x171, ex171⟩ : ∃ y : Int32, y = y117 + 1 := ⟨_, rfl⟩
      refine lv_iinc (v := x171) (lv' := [(4, .int x171), (3, .int 0), (0, .ref h), (1, .int a1), (2, .int b1)]) hx hb dX11_home_60 hl (k := 1) rfl (by rw [ex171]; rfl) (by decide) rfl (fun ls hl => ?_)
      have k172 : Rg x171 1 400 := rg_add ex171 k167 (rg_lit (n := 1) (by decide)) (by decide)
      refine lv_goto (tgt := 24) hx hb dX11_home_63 (by decide) ?_
      exact ih118 (x171) _ _ _ (by show (400 - (x171).toInt).toNat < (400 - (y117).toInt).toNat; exact mu_up ex171 k167 k172 (by decide)) ⟨(hF1.trans (kIter_go (kif_f (xF_le c119) (kLet_eq (ti_add ex171 k167 (rg_lit (n := 1) (by decide)) (by decide) rfl rfl) rfl)))), (rg_w k172 (by decide)), hP.sub (ws' := [(aw, kcI cI 2179 fw), (aP, .inl (cB, 400, .inl ft)), (h, oX11 0 aw ai ab ac hi re aP 0 0 ta be de fa a5 sp av an ak ne aW aC ag aT aN aF)]) [0, 1, 2] rfl, hD.sub (ws' := [(aw, kcI cI 2179 fw), (aP, .inl (cB, 400, .inl ft)), (h, oX11 0 aw ai ab ac hi re aP 0 0 ta be de fa a5 sp av an ak ne aW aC ag aT aN aF)]) [0, 1, 2] (by decide) rfl, hS, lv_sub (l' := [(4, .int x171), (3, .int 0), (0, .ref h), (1, .int a1), (2, .int b1)]) hl [0, 1, 2, 3, 4] rfl⟩
  · skip
    have k173 : Rg ta 0 10 := rg_q1 (eqI c7) H_ta k3 (by decide)
    refine lv_iconst (v := 1) hx hb dX11_home_15 (by decide) ?_
    refine lv_goto (tgt := 20) hx hb dX11_home_16 (by decide) ?_
    refine lv_istore_n (lv' := [(3, .int 1), (0, .ref h), (1, .int a1), (2, .int b1)]) hx hb dX11_home_20 rfl hl (by decide) rfl (fun ls hl => ?_)
    refine lv_iconst (v := 0) hx hb dX11_home_21 (by decide) ?_
    refine lv_istore (lv' := [(4, .int 0), (3, .int 1), (0, .ref h), (1, .int a1), (2, .int b1)]) hx hb dX11_home_22 hl (by decide) rfl (fun ls hl => ?_)
    refine k_loop (hd := 24) (fun (u : Int32 × Int32) => match u with | (y470, y471) => (10 - (y470).toInt).toNat) (fun (u : Int32 × Int32) (H : Heap) (locs : List Loc) (ls : Array Slot) => match u with | (y470, y471) => (F_r_home ta.toInt (gT fw) (gT ft) a1.toInt b1.toInt = F_r_home_l2 ta.toInt (gT fw) (gT ft) a1.toInt b1.toInt r1.toInt (y470.toInt, y471.toInt)) ∧ Rg y470 0 10 ∧ Rg y471 0 1 ∧ va_P D vwCl [(aw, kcI cI 2179 fw), (aP, .inl (cB, 400, .inl ft)), (h, oX11 0 aw ai ab ac hi re aP 0 0 ta be de fa a5 sp av an ak ne aW aC ag aT aN aF)] H ∧ va_D A [(aw, kcI cI 2179 fw), (aP, .inl (cB, 400, .inl ft)), (h, oX11 0 aw ai ab ac hi re aP 0 0 ta be de fa a5 sp av an ak ne aW aC ag aT aN aF)] ∧ va_S A s.heap H locs ∧ lv_has ls 8 [(4, .int y470), (3, .int y471), (0, .ref h), (1, .int a1), (2, .int b1)]) ((0 : Int32), (1 : Int32)) ⟨(kLet_eq (k4).symm (kif_t (eqI c7) rfl)), (rg_w (rg_lit (n := 0) (by decide)) (by decide)), (rg_w (rg_lit (n := 1) (by decide)) (by decide)), hP.sub (ws' := [(aw, kcI cI 2179 fw), (aP, .inl (cB, 400, .inl ft)), (h, oX11 0 aw ai ab ac hi re aP 0 0 ta be de fa a5 sp av an ak ne aW aC ag aT aN aF)]) [0, 1, 2] rfl, hD.sub (ws' := [(aw, kcI cI 2179 fw), (aP, .inl (cB, 400, .inl ft)), (h, oX11 0 aw ai ab ac hi re aP 0 0 ta be de fa a5 sp av an ak ne aW aC ag aT aN aF)]) [0, 1, 2] (by decide) rfl, hS, lv_sub (l' := [(4, .int 0), (3, .int 1), (0, .ref h), (1, .int a1), (2, .int b1)]) hl [0, 1, 2, 3, 4] rfl⟩ (fun u H locs ls hI ih472 => ?_)
    clear hP hD hS hl
    obtain ⟨y470, y471⟩ := u
    obtain ⟨hF2, hy470, hy471, hP, hD, hS, hl⟩ := hI
    have hP : va_P D vwCl [(aw, kcI cI 2179 fw), (aP, .inl (cB, 400, .inl ft)), (h, oX11 0 aw ai ab ac hi re aP 0 0 ta be de fa a5 sp av an ak ne aW aC ag aT aN aF)] H := hP
    have hD : va_D A [(aw, kcI cI 2179 fw), (aP, .inl (cB, 400, .inl ft)), (h, oX11 0 aw ai ab ac hi re aP 0 0 ta be de fa a5 sp av an ak ne aW aC ag aT aN aF)] := hD
    have hl : lv_has ls 8 [(4, .int y470), (3, .int y471), (0, .ref h), (1, .int a1), (2, .int b1)] := hl
    refine lv_iload hx hb dX11_home_24 (lv_at hl 0 rfl) ?_
    refine lv_aload_n hx hb dX11_home_26 rfl (lv_at hl 2 rfl) ?_
    refine va_get (D := D) (ci := 10) (v := .int ta) (C := RX11) (T := TX11) (N := 26) hx hb hts iG_X11 hown hK hP 2 rfl rfl 10 (by decide) (hts _ w18_6) (fun _ h9 => h9) rfl dX11_home_27 ?_
    refine lv_icmp_ge (tgt := 66) hx hb dX11_home_30 (by decide) (fun c473 => ?_) (fun c473 => ?_)
    · skip
      refine lv_aload_n hx hb dX11_home_66 rfl (lv_at hl 2 rfl) ?_
      refine lv_aload_n hx hb dX11_home_67 rfl (lv_at hl 2 rfl) ?_
      refine lv_iload_n hx hb dX11_home_68 rfl (lv_at hl 3 rfl) ?_
      refine kpurei (wc := [(h, oX11 0 aw ai ab ac hi re aP 0 0 ta be de fa a5 sp av an ak ne aW aC ag aT aN aF), (aw, kcI cI 2179 fw)]) hP hD hS hA [2, 0] rfl (by decide) (fun hPc hDc hFc => va_runV (As := [.int a1]) (rest := [.ref h]) ⟨hx, hb, hml, hown, hts⟩ (r_noMan l D cI cJ cB cC h 0 aw ai ab ac hi re aP 0 0 ta be de fa a5 sp av an ak ne aW aC ag aT aN aF fw a1 H.size H_fw_W) (cwV 1 hts gX11_home_X11_noMan rfl rfl rfl ⟨rfl, hdX11_noMan⟩ ⟨Nat.le_of_ble_eq_true rfl, Nat.le_of_ble_eq_true rfl⟩) ⟨kBlind, va_recv hK hPc (ci := 10) (q0 := 0) rfl rfl, fun U hU hW => ⟨rfl, by rw [hU], hN.warm hW, hE.pass hS hFc hW hU, by rw [hU]; exact hPc, va_K.moved hW.alike hK, hDc⟩⟩ rfl rfl hl.1 rfl (lv_room (Nat.le_of_ble_eq_true rfl)) dX11_home_69 ⟨Nat.le_of_ble_eq_true rfl, Nat.le_of_ble_eq_true rfl⟩) (fun r474 u H locs hw hP hS => ?_)
      obtain ⟨k475, hw⟩ := hw
      rcases hw with ⟨rfl, kc476_0, kc476_1⟩ | rfl
      · skip
        refine lv_if_ne (tgt := 83) hx hb dX11_home_72 (by decide) (fun c483 => absurd (by decide) c483) (fun _ => ?_)
        refine lv_aload_n hx hb dX11_home_75 rfl (lv_at hl 2 rfl) ?_
        refine lv_iload_n hx hb dX11_home_76 rfl (lv_at hl 4 rfl) ?_
        refine kpurei (wc := [(h, oX11 0 aw ai ab ac hi re aP 0 0 ta be de fa a5 sp av an ak ne aW aC ag aT aN aF), (aw, kcI cI 2179 fw)]) hP hD hS hA [2, 0] rfl (by decide) (fun hPc hDc hFc => va_runV (As := [.int b1]) (rest := [.ref h]) ⟨hx, hb, hml, hown, hts⟩ (r_noMan l D cI cJ cB cC h 0 aw ai ab ac hi re aP 0 0 ta be de fa a5 sp av an ak ne aW aC ag aT aN aF fw b1 H.size H_fw_W) (cwV 1 hts gX11_home_X11_noMan rfl rfl rfl ⟨rfl, hdX11_noMan⟩ ⟨Nat.le_of_ble_eq_true rfl, Nat.le_of_ble_eq_true rfl⟩) ⟨kBlind, va_recv hK hPc (ci := 10) (q0 := 0) rfl rfl, fun U hU hW => ⟨rfl, by rw [hU], hN.warm hW, hE.pass hS hFc hW hU, by rw [hU]; exact hPc, va_K.moved hW.alike hK, hDc⟩⟩ rfl rfl hl.1 rfl (lv_room (Nat.le_of_ble_eq_true rfl)) dX11_home_77 ⟨Nat.le_of_ble_eq_true rfl, Nat.le_of_ble_eq_true rfl⟩) (fun r484 u H locs hw hP hS => ?_)
        obtain ⟨k485, hw⟩ := hw
        rcases hw with ⟨rfl, kc486_0, kc486_1⟩ | rfl
        · skip
          refine lv_if_eq (tgt := 87) hx hb dX11_home_80 (by decide) (fun _ => ?_) (fun c487 => absurd (by decide) c487)
          refine lv_iconst (v := 0) hx hb dX11_home_87 (by decide) ?_
          refine lv_iconst (v := 1) hx hb dX11_home_88 (by decide) ?_
          refine kpurei (wc := [(h, oX11 0 aw ai ab ac hi re aP 0 0 ta be de fa a5 sp av an ak ne aW aC ag aT aN aF)]) hP hD hS hA [2] rfl (by decide) (fun hPc hDc hFc => va_runV (As := [.int 0, .int 1]) (rest := []) ⟨hx, hb, hml, hown, hts⟩ (r_throwsIf0_1 l D cI cJ cB cC h 0 aw ai ab ac hi re aP 0 0 ta be de fa a5 sp av an ak ne aW aC ag aT aN aF 1 H.size) (cwV 2 hts gX11_home_X11_throwsIf rfl rfl rfl ⟨rfl, hdX11_throwsIf⟩ ⟨Nat.le_of_ble_eq_true rfl, Nat.le_of_ble_eq_true rfl⟩) ⟨kBlind, va_recv hK hPc (ci := 10) (q0 := 0) rfl rfl, fun U hU hW => ⟨rfl, by rw [hU], hN.warm hW, hE.pass hS hFc hW hU, by rw [hU]; exact hPc, va_K.moved hW.alike hK, hDc⟩⟩ rfl rfl hl.1 rfl (lv_room (Nat.le_of_ble_eq_true rfl)) dX11_home_89 ⟨Nat.le_of_ble_eq_true rfl, Nat.le_of_ble_eq_true rfl⟩) (fun r488 u H locs hw hP hS => ?_)
          obtain ⟨k489, k490⟩ := hw
          refine lv_if_ne (tgt := 112) hx hb dX11_home_92 (by decide) (fun c7315 => absurd (rg_eq k489 (rg_lit (n := 0) (by decide)) (by decide)) c7315) (fun _ => ?_)
          refine lv_aload_n hx hb dX11_home_95 rfl (lv_at hl 2 rfl) ?_
          refine lv_iload_n hx hb dX11_home_96 rfl (lv_at hl 1 rfl) ?_
          refine lv_if_ne (tgt := 104) hx hb dX11_home_97 (by decide) (fun c7319 => ?_) (fun c7319 => ?_)
          · skip
            have k7320 : Rg y471 1 1 := rg_n1 (neI c7319) hy471 (rg_lit (n := 0) (by decide)) (by decide)
            refine lv_iconst (v := 0) hx hb dX11_home_104 (by decide) ?_
            refine lv_iconst (v := 2) hx hb dX11_home_105 (by decide) ?_
            refine kpurei (wc := [(h, oX11 0 aw ai ab ac hi re aP 0 0 ta be de fa a5 sp av an ak ne aW aC ag aT aN aF)]) hP hD hS hA [2] rfl (by decide) (fun hPc hDc hFc => va_runV (As := [.int 0, .int 2]) (rest := []) ⟨hx, hb, hml, hown, hts⟩ (r_throwsIf0_1 l D cI cJ cB cC h 0 aw ai ab ac hi re aP 0 0 ta be de fa a5 sp av an ak ne aW aC ag aT aN aF 2 H.size) (cwV 2 hts gX11_home_X11_throwsIf rfl rfl rfl ⟨rfl, hdX11_throwsIf⟩ ⟨Nat.le_of_ble_eq_true rfl, Nat.le_of_ble_eq_true rfl⟩) ⟨kBlind, va_recv hK hPc (ci := 10) (q0 := 0) rfl rfl, fun U hU hW => ⟨rfl, by rw [hU], hN.warm hW, hE.pass hS hFc hW hU, by rw [hU]; exact hPc, va_K.moved hW.alike hK, hDc⟩⟩ rfl rfl hl.1 rfl (lv_room (Nat.le_of_ble_eq_true rfl)) dX11_home_106 ⟨Nat.le_of_ble_eq_true rfl, Nat.le_of_ble_eq_true rfl⟩) (fun r7321 u H locs hw hP hS => ?_)
            obtain ⟨k7322, k7323⟩ := hw
            refine lv_if_eq (tgt := 114) hx hb dX11_home_109 (by decide) (fun _ => ?_) (fun c7324 => absurd (rg_eq k7322 (rg_lit (n := 0) (by decide)) (by decide)) c7324)
            refine lv_aload_n hx hb dX11_home_114 rfl (lv_at hl 2 rfl) ?_
            refine lv_iconst (v := 1) hx hb dX11_home_115 (by decide) ?_
            refine lv_iload_n hx hb dX11_home_116 rfl (lv_at hl 3 rfl) ?_
            refine lv_ishl hx hb dX11_home_117 ?_
            refine lv_topi (fun x7325 ex7325 => ?_)
            have k7326 : Rg x7325 1 512 := rg_shl1 9 ex7325 kc476_0 (by decide)
            refine kpurei (wc := [(h, oX11 0 aw ai ab ac hi re aP 0 0 ta be de fa a5 sp av an ak ne aW aC ag aT aN aF), (aw, kcI cI 2179 fw)]) hP hD hS hA [2, 0] rfl (by decide) (fun hPc hDc hFc => va_runV (As := [.int x7325]) (rest := []) ⟨hx, hb, hml, hown, hts⟩ (r_passed l D cI cJ cB cC h 0 aw ai ab ac hi re aP 0 0 ta be de fa a5 sp av an ak ne aW aC ag aT aN aF fw x7325 H.size H_fw_W) (cwV 1 hts gX11_home_X11_passed rfl rfl rfl ⟨rfl, hdX11_passed⟩ ⟨Nat.le_of_ble_eq_true rfl, Nat.le_of_ble_eq_true rfl⟩) ⟨kBlind, va_recv hK hPc (ci := 10) (q0 := 0) rfl rfl, fun U hU hW => ⟨rfl, by rw [hU], hN.warm hW, hE.pass hS hFc hW hU, by rw [hU]; exact hPc, va_K.moved hW.alike hK, hDc⟩⟩ rfl rfl hl.1 rfl (lv_room (Nat.le_of_ble_eq_true rfl)) dX11_home_118 ⟨Nat.le_of_ble_eq_true rfl, Nat.le_of_ble_eq_true rfl⟩) (fun r7327 u H locs hw hP hS => ?_)
            have k7328 := hw
            refine lv_istore (lv' := [(4, .int r7327), (3, .int y471), (0, .ref h), (1, .int a1), (2, .int b1)]) hx hb dX11_home_121 hl (by decide) rfl (fun ls hl => ?_)
            refine lv_iconst (v := 0) hx hb dX11_home_123 (by decide) ?_
            refine lv_istore (lv' := [(5, .int 0), (4, .int r7327), (3, .int y471), (0, .ref h), (1, .int a1), (2, .int b1)]) hx hb dX11_home_124 hl (by decide) rfl (fun ls hl => ?_)
            refine k_loop (hd := 126) (fun (u : Int32 × Int32) => match u with | (y13735, y13736) => (31 - (y13735).toInt).toNat) (fun (u : Int32 × Int32) (H : Heap) (locs : List Loc) (ls : Array Slot) => match u with | (y13735, y13736) => (F_r_home_l2_s ta.toInt (gT fw) (gT ft) a1.toInt b1.toInt r1.toInt (y470.toInt, y471.toInt) = F_r_home_l3 ta.toInt (gT fw) (gT ft) b1.toInt r1.toInt (y13735.toInt, y13736.toInt)) ∧ Rg y13735 0 31 ∧ va_P D vwCl [(aw, kcI cI 2179 fw), (aP, .inl (cB, 400, .inl ft)), (h, oX11 0 aw ai ab ac hi re aP 0 0 ta be de fa a5 sp av an ak ne aW aC ag aT aN aF)] H ∧ va_D A [(aw, kcI cI 2179 fw), (aP, .inl (cB, 400, .inl ft)), (h, oX11 0 aw ai ab ac hi re aP 0 0 ta be de fa a5 sp av an ak ne aW aC ag aT aN aF)] ∧ va_S A s.heap H locs ∧ lv_has ls 8 [(5, .int y13735), (4, .int y13736), (3, .int y471), (0, .ref h), (1, .int a1), (2, .int b1)]) ((0 : Int32), r7327) ⟨(kC_eq rfl (kif_t (leI c473) (kLet_eq (k475).symm (kif_t rfl (kLet_eq (k485).symm (kif_t rfl (kLet_eq (k490).symm (kif_f (neI c7319) (kLet_eq (k7323).symm (kLet_eq (ke_shl ex7325) (kLet_eq (k7328).symm rfl))))))))))), (rg_w (rg_lit (n := 0) (by decide)) (by decide)), hP.sub (ws' := [(aw, kcI cI 2179 fw), (aP, .inl (cB, 400, .inl ft)), (h, oX11 0 aw ai ab ac hi re aP 0 0 ta be de fa a5 sp av an ak ne aW aC ag aT aN aF)]) [0, 1, 2] rfl, hD.sub (ws' := [(aw, kcI cI 2179 fw), (aP, .inl (cB, 400, .inl ft)), (h, oX11 0 aw ai ab ac hi re aP 0 0 ta be de fa a5 sp av an ak ne aW aC ag aT aN aF)]) [0, 1, 2] (by decide) rfl, hS, lv_sub (l' := [(5, .int 0), (4, .int r7327), (3, .int y471), (0, .ref h), (1, .int a1), (2, .int b1)]) hl [0, 1, 2, 3, 4, 5] rfl⟩ (fun u H locs ls hI ih13737 => ?_)
            clear hP hD hS hl
            obtain ⟨y13735, y13736⟩ := u
            obtain ⟨hF3, hy13735, hP, hD, hS, hl⟩ := hI
            have hP : va_P D vwCl [(aw, kcI cI 2179 fw), (aP, .inl (cB, 400, .inl ft)), (h, oX11 0 aw ai ab ac hi re aP 0 0 ta be de fa a5 sp av an ak ne aW aC ag aT aN aF)] H := hP
            have hD : va_D A [(aw, kcI cI 2179 fw), (aP, .inl (cB, 400, .inl ft)), (h, oX11 0 aw ai ab ac hi re aP 0 0 ta be de fa a5 sp av an ak ne aW aC ag aT aN aF)] := hD
            have hl : lv_has ls 8 [(5, .int y13735), (4, .int y13736), (3, .int y471), (0, .ref h), (1, .int a1), (2, .int b1)] := hl
            refine lv_iload hx hb dX11_home_126 (lv_at hl 0 rfl) ?_
            refine lv_bipush (v := 30) hx hb dX11_home_128 (by decide) ?_
            refine lv_icmp_gt (tgt := 211) hx hb dX11_home_130 (by decide) (fun c13738 => ?_) (fun c13738 => ?_)
            · skip
              have k13739 : Rg y13735 31 31 := rg_l2 (ltI c13738) (rg_lit (n := 30) (by decide)) hy13735 (by decide)
              refine lv_iconst (v := (-1)) hx hb dX11_home_211 (by decide) ?_
              have hP9 := hP.sub (ws' := [(h, oX11 0 aw ai ab ac hi re aP 0 0 ta be de fa a5 sp av an ak ne aW aC ag aT aN aF), (aw, kcI cI 2179 fw), (aP, .inl (cB, 400, .inl ft))]) [2, 0, 1] rfl
              have hD9 := hD.sub (ws' := [(h, oX11 0 aw ai ab ac hi re aP 0 0 ta be de fa a5 sp av an ak ne aW aC ag aT aN aF), (aw, kcI cI 2179 fw), (aP, .inl (cB, 400, .inl ft))]) [2, 0, 1] (by decide) rfl
              exact W.iret (v := (-1)) hx hb hr (fun t ht hW => ⟨⟨(-1), ((0 : Int32), ta), rfl, ⟨(rg_w k173 (by decide)), (rg_w (rg_lit (n := -1) (by decide)) (by decide)), (hF2.trans (kIter_out (hF3.trans (kIter_out (kC_eq rfl (kif_t (ltI c13738) rfl))))))⟩, by rw [ht]; exact hP9, va_K.moved hW.alike hK, hD9⟩, hS.F ht⟩) hS.2.2 dX11_home_212
            · skip
              have k13740 : Rg y13735 0 30 := rg_e1 (nltI c13738) hy13735 (rg_lit (n := 30) (by decide)) (by decide)
              refine lv_iload hx hb dX11_home_133 (lv_at hl 1 rfl) ?_
              refine lv_iload_n hx hb dX11_home_135 rfl (lv_at hl 5 rfl) ?_
              refine kpurei (wc := []) hP hD hS hA [] rfl (by decide) (fun hPc hDc hFc => va_runS (As := [.int y13736, .int b1]) (rest := []) ⟨hx, hb, hml, hown, hts⟩ (r_has l D cI cJ cB cC y13736 b1 H.size) (va_cwS 2 hts gX11_home_X11_has rfl rfl rfl hdX11_has ⟨Nat.le_of_ble_eq_true rfl, Nat.le_of_ble_eq_true rfl⟩) ⟨kBlind, fun U hU hW => ⟨rfl, by rw [hU], hN.warm hW, hE.pass hS hFc hW hU, by rw [hU]; exact hPc, va_K.moved hW.alike hK, hDc⟩⟩ rfl rfl hl.1 rfl (lv_room (Nat.le_of_ble_eq_true rfl)) dX11_home_136 ⟨Nat.le_of_ble_eq_true rfl, Nat.le_of_ble_eq_true rfl⟩) (fun r13741 u H locs hw hP hS => ?_)
              obtain ⟨k13742, k13743⟩ := hw
              refine lv_if_eq (tgt := 145) hx hb dX11_home_139 (by decide) (fun c13744 => ?_) (fun c13744 => ?_)
              · skip
                have k13745 : Rg r13741 0 0 := rg_q1 (eqI c13744) k13742 (rg_lit (n := 0) (by decide)) (by decide)
                refine lv_iconst (v := 0) hx hb dX11_home_145 (by decide) ?_
                refine lv_istore (lv' := [(6, .int 0), (5, .int y13735), (4, .int y13736), (3, .int y471), (0, .ref h), (1, .int a1), (2, .int b1)]) hx hb dX11_home_146 hl (by decide) rfl (fun ls hl => ?_)
                refine lv_iconst (v := 0) hx hb dX11_home_148 (by decide) ?_
                refine lv_istore (lv' := [(7, .int 0), (6, .int 0), (5, .int y13735), (4, .int y13736), (3, .int y471), (0, .ref h), (1, .int a1), (2, .int b1)]) hx hb dX11_home_149 hl (by decide) rfl (fun ls hl => ?_)
                refine k_loop (hd := 151) (fun (u : Int32 × Int32) => match u with | (y14109, y14110) => (10 - (y14109).toInt).toNat) (fun (u : Int32 × Int32) (H : Heap) (locs : List Loc) (ls : Array Slot) => match u with | (y14109, y14110) => (F_r_home_l3_s ta.toInt (gT fw) (gT ft) b1.toInt r1.toInt (y13735.toInt, y13736.toInt) = F_r_home_l4 (gT fw) (gT ft) r1.toInt y13735.toInt y13736.toInt (y14109.toInt, y14110.toInt)) ∧ Rg y14109 0 10 ∧ va_P D vwCl [(aw, kcI cI 2179 fw), (aP, .inl (cB, 400, .inl ft)), (h, oX11 0 aw ai ab ac hi re aP 0 0 ta be de fa a5 sp av an ak ne aW aC ag aT aN aF)] H ∧ va_D A [(aw, kcI cI 2179 fw), (aP, .inl (cB, 400, .inl ft)), (h, oX11 0 aw ai ab ac hi re aP 0 0 ta be de fa a5 sp av an ak ne aW aC ag aT aN aF)] ∧ va_S A s.heap H locs ∧ lv_has ls 8 [(7, .int y14109), (6, .int y14110), (5, .int y13735), (4, .int y13736), (3, .int y471), (0, .ref h), (1, .int a1), (2, .int b1)]) ((0 : Int32), (0 : Int32)) ⟨(kC_eq rfl (kif_f (xF_lt c13738) (kLet_eq (k13743).symm (kif_t (eqI c13744) rfl)))), (rg_w (rg_lit (n := 0) (by decide)) (by decide)), hP.sub (ws' := [(aw, kcI cI 2179 fw), (aP, .inl (cB, 400, .inl ft)), (h, oX11 0 aw ai ab ac hi re aP 0 0 ta be de fa a5 sp av an ak ne aW aC ag aT aN aF)]) [0, 1, 2] rfl, hD.sub (ws' := [(aw, kcI cI 2179 fw), (aP, .inl (cB, 400, .inl ft)), (h, oX11 0 aw ai ab ac hi re aP 0 0 ta be de fa a5 sp av an ak ne aW aC ag aT aN aF)]) [0, 1, 2] (by decide) rfl, hS, lv_sub (l' := [(7, .int 0), (6, .int 0), (5, .int y13735), (4, .int y13736), (3, .int y471), (0, .ref h), (1, .int a1), (2, .int b1)]) hl [0, 1, 2, 3, 4, 5, 6, 7] rfl⟩ (fun u H locs ls hI ih14111 => ?_)
                clear hP hD hS hl
                obtain ⟨y14109, y14110⟩ := u
                obtain ⟨hF4, hy14109, hP, hD, hS, hl⟩ := hI
                have hP : va_P D vwCl [(aw, kcI cI 2179 fw), (aP, .inl (cB, 400, .inl ft)), (h, oX11 0 aw ai ab ac hi re aP 0 0 ta be de fa a5 sp av an ak ne aW aC ag aT aN aF)] H := hP
                have hD : va_D A [(aw, kcI cI 2179 fw), (aP, .inl (cB, 400, .inl ft)), (h, oX11 0 aw ai ab ac hi re aP 0 0 ta be de fa a5 sp av an ak ne aW aC ag aT aN aF)] := hD
                have hl : lv_has ls 8 [(7, .int y14109), (6, .int y14110), (5, .int y13735), (4, .int y13736), (3, .int y471), (0, .ref h), (1, .int a1), (2, .int b1)] := hl
                refine lv_iload hx hb dX11_home_151 (lv_at hl 0 rfl) ?_
                refine lv_aload_n hx hb dX11_home_153 rfl (lv_at hl 5 rfl) ?_
                refine kpurei (wc := [(h, oX11 0 aw ai ab ac hi re aP 0 0 ta be de fa a5 sp av an ak ne aW aC ag aT aN aF), (aw, kcI cI 2179 fw)]) hP hD hS hA [2, 0] rfl (by decide) (fun hPc hDc hFc => va_runV (As := []) (rest := [.int y14109]) ⟨hx, hb, hml, hown, hts⟩ (r_men l D cI cJ cB cC h 0 aw ai ab ac hi re aP 0 0 ta be de fa a5 sp av an ak ne aW aC ag aT aN aF fw H.size H_fw_W) (cwV 0 hts gX11_home_X11_men rfl rfl rfl ⟨rfl, hdX11_men⟩ ⟨Nat.le_of_ble_eq_true rfl, Nat.le_of_ble_eq_true rfl⟩) ⟨kBlind, va_recv hK hPc (ci := 10) (q0 := 0) rfl rfl, fun U hU hW => ⟨rfl, by rw [hU], hN.warm hW, hE.pass hS hFc hW hU, by rw [hU]; exact hPc, va_K.moved hW.alike hK, hDc⟩⟩ rfl rfl hl.1 rfl (lv_room (Nat.le_of_ble_eq_true rfl)) dX11_home_154 ⟨Nat.le_of_ble_eq_true rfl, Nat.le_of_ble_eq_true rfl⟩) (fun r14112 u H locs hw hP hS => ?_)
                obtain ⟨k14113, k14114, k14115⟩ := hw
                obtain rfl : r1 = r14112 := k2.trans k14113.symm
                refine lv_icmp_ge (tgt := 197) hx hb dX11_home_157 (by decide) (fun c14116 => ?_) (fun c14116 => ?_)
                · skip
                  refine lv_aload_n hx hb dX11_home_197 rfl (lv_at hl 5 rfl) ?_
                  refine lv_iload hx hb dX11_home_198 (lv_at hl 1 rfl) ?_
                  refine kpurei (wc := [(h, oX11 0 aw ai ab ac hi re aP 0 0 ta be de fa a5 sp av an ak ne aW aC ag aT aN aF), (aw, kcI cI 2179 fw)]) hP hD hS hA [2, 0] rfl (by decide) (fun hPc hDc hFc => va_runV (As := [.int y14110]) (rest := []) ⟨hx, hb, hml, hown, hts⟩ (r_passed l D cI cJ cB cC h 0 aw ai ab ac hi re aP 0 0 ta be de fa a5 sp av an ak ne aW aC ag aT aN aF fw y14110 H.size H_fw_W) (cwV 1 hts gX11_home_X11_passed rfl rfl rfl ⟨rfl, hdX11_passed⟩ ⟨Nat.le_of_ble_eq_true rfl, Nat.le_of_ble_eq_true rfl⟩) ⟨kBlind, va_recv hK hPc (ci := 10) (q0 := 0) rfl rfl, fun U hU hW => ⟨rfl, by rw [hU], hN.warm hW, hE.pass hS hFc hW hU, by rw [hU]; exact hPc, va_K.moved hW.alike hK, hDc⟩⟩ rfl rfl hl.1 rfl (lv_room (Nat.le_of_ble_eq_true rfl)) dX11_home_200 ⟨Nat.le_of_ble_eq_true rfl, Nat.le_of_ble_eq_true rfl⟩) (fun r14117 u H locs hw hP hS => ?_)
                  have k14118 := hw
                  refine lv_istore (lv' := [(4, .int r14117), (7, .int y14109), (6, .int y14110), (5, .int y13735), (3, .int y471), (0, .ref h), (1, .int a1), (2, .int b1)]) hx hb dX11_home_203 hl (by decide) rfl (fun ls hl => ?_)
                  obtain ⟨x14119, ex14119⟩ : ∃ y : Int32, y = y13735 + 1 := ⟨_, rfl⟩
                  refine lv_iinc (v := x14119) (lv' := [(5, .int x14119), (4, .int r14117), (7, .int y14109), (6, .int y14110), (3, .int y471), (0, .ref h), (1, .int a1), (2, .int b1)]) hx hb dX11_home_205 hl (k := 3) rfl (by rw [ex14119]; rfl) (by decide) rfl (fun ls hl => ?_)
                  have k14120 : Rg x14119 1 31 := rg_add ex14119 k13740 (rg_lit (n := 1) (by decide)) (by decide)
                  refine lv_goto (tgt := 126) hx hb dX11_home_208 (by decide) ?_
                  exact ih13737 (x14119, r14117) _ _ _ (by show (31 - (x14119).toInt).toNat < (31 - (y13735).toInt).toNat; exact mu_up ex14119 k13740 k14120 (by decide)) ⟨(hF3.trans (kIter_go (hF4.trans (kIter_out (kC_eq rfl (kLet_eq (k14115).symm (kif_t (leI c14116) (kLet_eq (k14118).symm (kLet_eq (ti_add ex14119 k13740 (rg_lit (n := 1) (by decide)) (by decide) rfl rfl) rfl))))))))), (rg_w k14120 (by decide)), hP.sub (ws' := [(aw, kcI cI 2179 fw), (aP, .inl (cB, 400, .inl ft)), (h, oX11 0 aw ai ab ac hi re aP 0 0 ta be de fa a5 sp av an ak ne aW aC ag aT aN aF)]) [0, 1, 2] rfl, hD.sub (ws' := [(aw, kcI cI 2179 fw), (aP, .inl (cB, 400, .inl ft)), (h, oX11 0 aw ai ab ac hi re aP 0 0 ta be de fa a5 sp av an ak ne aW aC ag aT aN aF)]) [0, 1, 2] (by decide) rfl, hS, lv_sub (l' := [(5, .int x14119), (4, .int r14117), (3, .int y471), (0, .ref h), (1, .int a1), (2, .int b1)]) hl [0, 1, 4, 5, 6, 7] rfl⟩
                · skip
                  have k14121 : Rg y14109 0 9 := rg_l1 (nleI c14116) hy14109 k3 (by decide)
                  have k14122 : Rg r1 1 10 := rg_l2 (nleI c14116) hy14109 k3 (by decide)
                  refine lv_iload hx hb dX11_home_160 (lv_at hl 1 rfl) ?_
                  refine lv_iload hx hb dX11_home_162 (lv_at hl 3 rfl) ?_
                  refine lv_iload hx hb dX11_home_164 (lv_at hl 0 rfl) ?_
                  refine kpurei (wc := []) hP hD hS hA [] rfl (by decide) (fun hPc hDc hFc => va_runS (As := [.int y13736, .int y14109]) (rest := [.int y14110]) ⟨hx, hb, hml, hown, hts⟩ (r_has l D cI cJ cB cC y13736 y14109 H.size) (va_cwS 2 hts gX11_home_X11_has rfl rfl rfl hdX11_has ⟨Nat.le_of_ble_eq_true rfl, Nat.le_of_ble_eq_true rfl⟩) ⟨kBlind, fun U hU hW => ⟨rfl, by rw [hU], hN.warm hW, hE.pass hS hFc hW hU, by rw [hU]; exact hPc, va_K.moved hW.alike hK, hDc⟩⟩ rfl rfl hl.1 rfl (lv_room (Nat.le_of_ble_eq_true rfl)) dX11_home_166 ⟨Nat.le_of_ble_eq_true rfl, Nat.le_of_ble_eq_true rfl⟩) (fun r14123 u H locs hw hP hS => ?_)
                  obtain ⟨k14124, k14125⟩ := hw
                  refine k_join (hd := 188) (cells2 := 0) (slots2 := 0) (fun (u : Int32 × Int32) => match u with | (z14134, z14135) => [.int z14134, .int z14135]) (fun (u : Int32 × Int32) (H : Heap) (locs : List Loc) (ls : Array Slot) => match u with | (z14134, z14135) => (F_r_home_l4_s (gT fw) (gT ft) r1.toInt y13735.toInt y13736.toInt (y14109.toInt, y14110.toInt) = F_r_home_j5 y14109.toInt z14134.toInt z14135.toInt) ∧ va_P D vwCl [(aw, kcI cI 2179 fw), (aP, .inl (cB, 400, .inl ft)), (h, oX11 0 aw ai ab ac hi re aP 0 0 ta be de fa a5 sp av an ak ne aW aC ag aT aN aF)] H ∧ va_D A [(aw, kcI cI 2179 fw), (aP, .inl (cB, 400, .inl ft)), (h, oX11 0 aw ai ab ac hi re aP 0 0 ta be de fa a5 sp av an ak ne aW aC ag aT aN aF)] ∧ va_S A s.heap H locs ∧ lv_has ls 8 [(7, .int y14109), (6, .int y14110), (5, .int y13735), (4, .int y13736), (3, .int y471), (0, .ref h), (1, .int a1), (2, .int b1)]) (fun u H locs ls hI => ?_) (fun hJ188 => ?_)
                  · skip
                    clear hP hD hS hl
                    obtain ⟨z14134, z14135⟩ := u
                    obtain ⟨hF5, hP, hD, hS, hl⟩ := hI
                    have hP : va_P D vwCl [(aw, kcI cI 2179 fw), (aP, .inl (cB, 400, .inl ft)), (h, oX11 0 aw ai ab ac hi re aP 0 0 ta be de fa a5 sp av an ak ne aW aC ag aT aN aF)] H := hP
                    have hD : va_D A [(aw, kcI cI 2179 fw), (aP, .inl (cB, 400, .inl ft)), (h, oX11 0 aw ai ab ac hi re aP 0 0 ta be de fa a5 sp av an ak ne aW aC ag aT aN aF)] := hD
                    have hl : lv_has ls 8 [(7, .int y14109), (6, .int y14110), (5, .int y13735), (4, .int y13736), (3, .int y471), (0, .ref h), (1, .int a1), (2, .int b1)] := hl
                    show W _ _ _ _ _ _ _ _ _ _ _ _ _ _ _ (F0 m 188 ls [.int z14134, .int z14135])
                    refine lv_ior hx hb dX11_home_188 ?_
                    refine lv_topi (fun x14136 ex14136 => ?_)
                    refine lv_istore (lv' := [(6, .int x14136), (7, .int y14109), (5, .int y13735), (4, .int y13736), (3, .int y471), (0, .ref h), (1, .int a1), (2, .int b1)]) hx hb dX11_home_189 hl (by decide) rfl (fun ls hl => ?_)
                    obtain ⟨x14137, ex14137⟩ : ∃ y : Int32, y = y14109 + 1 := ⟨_, rfl⟩
                    refine lv_iinc (v := x14137) (lv' := [(7, .int x14137), (6, .int x14136), (5, .int y13735), (4, .int y13736), (3, .int y471), (0, .ref h), (1, .int a1), (2, .int b1)]) hx hb dX11_home_191 hl (k := 1) rfl (by rw [ex14137]; rfl) (by decide) rfl (fun ls hl => ?_)
                    have k14138 : Rg x14137 1 10 := rg_add ex14137 k14121 (rg_lit (n := 1) (by decide)) (by decide)
                    refine lv_goto (tgt := 151) hx hb dX11_home_194 (by decide) ?_
                    exact ih14111 (x14137, x14136) _ _ _ (by show (10 - (x14137).toInt).toNat < (10 - (y14109).toInt).toNat; exact mu_up ex14137 k14121 k14138 (by decide)) ⟨(hF4.trans (kIter_go (hF5.trans (kLet_eq (ke_or ex14136) (kLet_eq (ti_add ex14137 k14121 (rg_lit (n := 1) (by decide)) (by decide) rfl rfl) rfl))))), (rg_w k14138 (by decide)), hP.sub (ws' := [(aw, kcI cI 2179 fw), (aP, .inl (cB, 400, .inl ft)), (h, oX11 0 aw ai ab ac hi re aP 0 0 ta be de fa a5 sp av an ak ne aW aC ag aT aN aF)]) [0, 1, 2] rfl, hD.sub (ws' := [(aw, kcI cI 2179 fw), (aP, .inl (cB, 400, .inl ft)), (h, oX11 0 aw ai ab ac hi re aP 0 0 ta be de fa a5 sp av an ak ne aW aC ag aT aN aF)]) [0, 1, 2] (by decide) rfl, hS, lv_sub (l' := [(7, .int x14137), (6, .int x14136), (5, .int y13735), (4, .int y13736), (3, .int y471), (0, .ref h), (1, .int a1), (2, .int b1)]) hl [0, 1, 2, 3, 4, 5, 6, 7] rfl⟩
                  refine lv_if_eq (tgt := 187) hx hb dX11_home_169 (by decide) (fun c14139 => ?_) (fun c14139 => ?_)
                  · skip
                    have k14140 : Rg r14123 0 0 := rg_q1 (eqI c14139) k14124 (rg_lit (n := 0) (by decide)) (by decide)
                    refine lv_iconst (v := 0) hx hb dX11_home_187 (by decide) ?_
                    exact hJ188 ((0 : Int32), y14110) _ _ _ ⟨(kC_eq rfl (kLet_eq (k14115).symm (kif_f (xF_le c14116) (kLet_eq (k14125).symm (kif_t (eqI c14139) rfl))))), hP.sub (ws' := [(aw, kcI cI 2179 fw), (aP, .inl (cB, 400, .inl ft)), (h, oX11 0 aw ai ab ac hi re aP 0 0 ta be de fa a5 sp av an ak ne aW aC ag aT aN aF)]) [0, 1, 2] rfl, hD.sub (ws' := [(aw, kcI cI 2179 fw), (aP, .inl (cB, 400, .inl ft)), (h, oX11 0 aw ai ab ac hi re aP 0 0 ta be de fa a5 sp av an ak ne aW aC ag aT aN aF)]) [0, 1, 2] (by decide) rfl, hS, lv_sub (l' := [(7, .int y14109), (6, .int y14110), (5, .int y13735), (4, .int y13736), (3, .int y471), (0, .ref h), (1, .int a1), (2, .int b1)]) hl [0, 1, 2, 3, 4, 5, 6, 7] rfl⟩
                  · skip
                    have k14141 : Rg r14123 1 1 := rg_n1 (neI c14139) k14124 (rg_lit (n := 0) (by decide)) (by decide)
                    refine lv_iconst (v := 1) hx hb dX11_home_172 (by decide) ?_
                    refine lv_aload_n hx hb dX11_home_173 rfl (lv_at hl 5 rfl) ?_
                    refine va_get (D := D) (ci := 10) (v := .ref aP) (C := RX11) (T := TX11) (N := 26) hx hb hts iG_X11 hown hK hP 2 rfl rfl 7 (by decide) (hts _ w5_8) (fun _ h9 => h9) rfl dX11_home_174 ?_
                    refine lv_iload hx hb dX11_home_177 (lv_at hl 0 rfl) ?_
                    refine va_bald hx hb hK hP 1 2 rfl rfl (rg_in k14121 (by decide)) dX11_home_179 ?_
                    refine lv_topi (fun x14142 ex14142 => ?_)
                    refine lv_bipush (v := 48) hx hb dX11_home_180 (by decide) ?_
                    refine lv_isub hx hb dX11_home_182 ?_
                    refine lv_topi (fun x14143 ex14143 => ?_)
                    refine lv_ishl hx hb dX11_home_183 ?_
                    refine lv_topi (fun x14144 ex14144 => ?_)
                    refine lv_goto (tgt := 188) hx hb dX11_home_184 (by decide) ?_
                    exact hJ188 (x14144, y14110) _ _ _ ⟨(kC_eq rfl (kLet_eq (k14115).symm (kif_f (xF_le c14116) (kLet_eq (k14125).symm (kif_f (neI c14139) (kLet_eq (ke_ld ex14142) (kLet_eq (ke_wsub ex14143) (kLet_eq (ke_shl ex14144) rfl)))))))), hP.sub (ws' := [(aw, kcI cI 2179 fw), (aP, .inl (cB, 400, .inl ft)), (h, oX11 0 aw ai ab ac hi re aP 0 0 ta be de fa a5 sp av an ak ne aW aC ag aT aN aF)]) [0, 1, 2] rfl, hD.sub (ws' := [(aw, kcI cI 2179 fw), (aP, .inl (cB, 400, .inl ft)), (h, oX11 0 aw ai ab ac hi re aP 0 0 ta be de fa a5 sp av an ak ne aW aC ag aT aN aF)]) [0, 1, 2] (by decide) rfl, hS, lv_sub (l' := [(7, .int y14109), (6, .int y14110), (5, .int y13735), (4, .int y13736), (3, .int y471), (0, .ref h), (1, .int a1), (2, .int b1)]) hl [0, 1, 2, 3, 4, 5, 6, 7] rfl⟩
              · skip
                have k14145 : Rg r13741 1 1 := rg_n1 (neI c13744) k13742 (rg_lit (n := 0) (by decide)) (by decide)
                refine lv_iload hx hb dX11_home_142 (lv_at hl 0 rfl) ?_
                have hP9 := hP.sub (ws' := [(h, oX11 0 aw ai ab ac hi re aP 0 0 ta be de fa a5 sp av an ak ne aW aC ag aT aN aF), (aw, kcI cI 2179 fw), (aP, .inl (cB, 400, .inl ft))]) [2, 0, 1] rfl
                have hD9 := hD.sub (ws' := [(h, oX11 0 aw ai ab ac hi re aP 0 0 ta be de fa a5 sp av an ak ne aW aC ag aT aN aF), (aw, kcI cI 2179 fw), (aP, .inl (cB, 400, .inl ft))]) [2, 0, 1] (by decide) rfl
                exact W.iret (v := y13735) hx hb hr (fun t ht hW => ⟨⟨y13735, ((0 : Int32), ta), rfl, ⟨(rg_w k173 (by decide)), (rg_w k13740 (by decide)), (hF2.trans (kIter_out (hF3.trans (kIter_out (kC_eq rfl (kif_f (xF_lt c13738) (kLet_eq (k13743).symm (kif_f (neI c13744) rfl))))))))⟩, by rw [ht]; exact hP9, va_K.moved hW.alike hK, hD9⟩, hS.F ht⟩) hS.2.2 dX11_home_144
          · skip
            have k14146 : Rg y471 0 0 := rg_q1 (eqI c7319) hy471 (rg_lit (n := 0) (by decide)) (by decide)
            refine lv_iconst (v := 1) hx hb dX11_home_100 (by decide) ?_
            refine lv_goto (tgt := 105) hx hb dX11_home_101 (by decide) ?_
            refine lv_iconst (v := 2) hx hb dX11_home_105 (by decide) ?_
            refine kcalli (wc := [(h, oX11 0 aw ai ab ac hi re aP 0 0 ta be de fa a5 sp av an ak ne aW aC ag aT aN aF)]) (wr := [(aw, kcI cI 2179 fw), (aP, .inl (cB, 400, .inl ft))]) hP hD hS hA [2] [0, 1] rfl rfl (by decide) (by decide) (by decide) (fun hPc hDc hFc => va_runV (As := [.int 1, .int 2]) (rest := []) ⟨hx, hb, hml, hown, hts⟩ (r_throwsIf1_1 l D cI cJ cB cC h 0 aw ai ab ac hi re aP 0 0 ta be de fa a5 sp av an ak ne aW aC ag aT aN aF 2 H.size) (cwV 2 hts gX11_home_X11_throwsIf rfl rfl rfl ⟨rfl, hdX11_throwsIf⟩ ⟨Nat.le_of_ble_eq_true rfl, Nat.le_of_ble_eq_true rfl⟩) ⟨kBlind, va_recv hK hPc (ci := 10) (q0 := 0) rfl rfl, fun U hU hW => ⟨rfl, by rw [hU], hN.warm hW, hE.pass hS hFc hW hU, by rw [hU]; exact hPc, va_K.moved hW.alike hK, hDc⟩⟩ rfl rfl hl.1 rfl (lv_room (Nat.le_of_ble_eq_true rfl)) dX11_home_106 ⟨Nat.le_of_ble_eq_true rfl, Nat.le_of_ble_eq_true rfl⟩) (fun r14147 u H locs hw hP hD hS => ?_)
            obtain ⟨x14148, rfl⟩ : ∃ z, z = u := ⟨_, rfl⟩
            have hP : va_P D vwCl [(aw, kcI cI 2179 fw), (aP, .inl (cB, 400, .inl ft)), (h, oX11 x14148 aw ai ab ac hi re aP 0 0 ta be de fa a5 sp av an ak ne aW aC ag aT aN aF)] H := hP
            have hD : va_D A [(aw, kcI cI 2179 fw), (aP, .inl (cB, 400, .inl ft)), (h, oX11 x14148 aw ai ab ac hi re aP 0 0 ta be de fa a5 sp av an ak ne aW aC ag aT aN aF)] := hD
            obtain ⟨k14149, k14150⟩ := hw
            refine lv_if_eq (tgt := 114) hx hb dX11_home_109 (by decide) (fun c14151 => absurd c14151 (rg_neq k14149 (rg_lit (n := 0) (by decide)) (by decide))) (fun _ => ?_)
            refine lv_iconst (v := 0) hx hb dX11_home_112 (by decide) ?_
            have hP9 := hP.sub (ws' := [(h, oX11 x14148 aw ai ab ac hi re aP 0 0 ta be de fa a5 sp av an ak ne aW aC ag aT aN aF), (aw, kcI cI 2179 fw), (aP, .inl (cB, 400, .inl ft))]) [2, 0, 1] rfl
            have hD9 := hD.sub (ws' := [(h, oX11 x14148 aw ai ab ac hi re aP 0 0 ta be de fa a5 sp av an ak ne aW aC ag aT aN aF), (aw, kcI cI 2179 fw), (aP, .inl (cB, 400, .inl ft))]) [2, 0, 1] (by decide) rfl
            exact W.iret (v := 0) hx hb hr (fun t ht hW => ⟨⟨0, (x14148, ta), rfl, ⟨(rg_w k173 (by decide)), (rg_w (rg_lit (n := 0) (by decide)) (by decide)), (hF2.trans (kIter_out (kC_eq rfl (kif_t (leI c473) (kLet_eq (k475).symm (kif_t rfl (kLet_eq (k485).symm (kif_t rfl (kLet_eq (k490).symm (kif_t (eqI c7319) (kC_eq k14150 rfl)))))))))))⟩, by rw [ht]; exact hP9, va_K.moved hW.alike hK, hD9⟩, hS.F ht⟩) hS.2.2 dX11_home_113
        · skip
          refine lv_if_eq (tgt := 87) hx hb dX11_home_80 (by decide) (fun c14152 => absurd c14152 (by decide)) (fun _ => ?_)
          refine lv_iconst (v := 1) hx hb dX11_home_83 (by decide) ?_
          refine lv_goto (tgt := 88) hx hb dX11_home_84 (by decide) ?_
          refine lv_iconst (v := 1) hx hb dX11_home_88 (by decide) ?_
          refine kcalli (wc := [(h, oX11 0 aw ai ab ac hi re aP 0 0 ta be de fa a5 sp av an ak ne aW aC ag aT aN aF)]) (wr := [(aw, kcI cI 2179 fw), (aP, .inl (cB, 400, .inl ft))]) hP hD hS hA [2] [0, 1] rfl rfl (by decide) (by decide) (by decide) (fun hPc hDc hFc => va_runV (As := [.int 1, .int 1]) (rest := []) ⟨hx, hb, hml, hown, hts⟩ (r_throwsIf1_1 l D cI cJ cB cC h 0 aw ai ab ac hi re aP 0 0 ta be de fa a5 sp av an ak ne aW aC ag aT aN aF 1 H.size) (cwV 2 hts gX11_home_X11_throwsIf rfl rfl rfl ⟨rfl, hdX11_throwsIf⟩ ⟨Nat.le_of_ble_eq_true rfl, Nat.le_of_ble_eq_true rfl⟩) ⟨kBlind, va_recv hK hPc (ci := 10) (q0 := 0) rfl rfl, fun U hU hW => ⟨rfl, by rw [hU], hN.warm hW, hE.pass hS hFc hW hU, by rw [hU]; exact hPc, va_K.moved hW.alike hK, hDc⟩⟩ rfl rfl hl.1 rfl (lv_room (Nat.le_of_ble_eq_true rfl)) dX11_home_89 ⟨Nat.le_of_ble_eq_true rfl, Nat.le_of_ble_eq_true rfl⟩) (fun r14153 u H locs hw hP hD hS => ?_)
          obtain ⟨x14154, rfl⟩ : ∃ z, z = u := ⟨_, rfl⟩
          have hP : va_P D vwCl [(aw, kcI cI 2179 fw), (aP, .inl (cB, 400, .inl ft)), (h, oX11 x14154 aw ai ab ac hi re aP 0 0 ta be de fa a5 sp av an ak ne aW aC ag aT aN aF)] H := hP
          have hD : va_D A [(aw, kcI cI 2179 fw), (aP, .inl (cB, 400, .inl ft)), (h, oX11 x14154 aw ai ab ac hi re aP 0 0 ta be de fa a5 sp av an ak ne aW aC ag aT aN aF)] := hD
          obtain ⟨k14155, k14156⟩ := hw
          refine lv_if_ne (tgt := 112) hx hb dX11_home_92 (by decide) (fun _ => ?_) (fun c14158 => absurd c14158 (rg_neq k14155 (rg_lit (n := 0) (by decide)) (by decide)))
          refine lv_iconst (v := 0) hx hb dX11_home_112 (by decide) ?_
          have hP9 := hP.sub (ws' := [(h, oX11 x14154 aw ai ab ac hi re aP 0 0 ta be de fa a5 sp av an ak ne aW aC ag aT aN aF), (aw, kcI cI 2179 fw), (aP, .inl (cB, 400, .inl ft))]) [2, 0, 1] rfl
          have hD9 := hD.sub (ws' := [(h, oX11 x14154 aw ai ab ac hi re aP 0 0 ta be de fa a5 sp av an ak ne aW aC ag aT aN aF), (aw, kcI cI 2179 fw), (aP, .inl (cB, 400, .inl ft))]) [2, 0, 1] (by decide) rfl
          exact W.iret (v := 0) hx hb hr (fun t ht hW => ⟨⟨0, (x14154, ta), rfl, ⟨(rg_w k173 (by decide)), (rg_w (rg_lit (n := 0) (by decide)) (by decide)), (hF2.trans (kIter_out (kC_eq rfl (kif_t (leI c473) (kLet_eq (k475).symm (kif_t rfl (kLet_eq (k485).symm (kif_f (by decide) (kC_eq k14156 rfl)))))))))⟩, by rw [ht]; exact hP9, va_K.moved hW.alike hK, hD9⟩, hS.F ht⟩) hS.2.2 dX11_home_113
      · skip
        refine lv_if_ne (tgt := 83) hx hb dX11_home_72 (by decide) (fun _ => ?_) (fun c14160 => absurd c14160 (by decide))
        refine lv_iconst (v := 1) hx hb dX11_home_83 (by decide) ?_
        refine lv_goto (tgt := 88) hx hb dX11_home_84 (by decide) ?_
        refine lv_iconst (v := 1) hx hb dX11_home_88 (by decide) ?_
        refine kcalli (wc := [(h, oX11 0 aw ai ab ac hi re aP 0 0 ta be de fa a5 sp av an ak ne aW aC ag aT aN aF)]) (wr := [(aw, kcI cI 2179 fw), (aP, .inl (cB, 400, .inl ft))]) hP hD hS hA [2] [0, 1] rfl rfl (by decide) (by decide) (by decide) (fun hPc hDc hFc => va_runV (As := [.int 1, .int 1]) (rest := []) ⟨hx, hb, hml, hown, hts⟩ (r_throwsIf1_1 l D cI cJ cB cC h 0 aw ai ab ac hi re aP 0 0 ta be de fa a5 sp av an ak ne aW aC ag aT aN aF 1 H.size) (cwV 2 hts gX11_home_X11_throwsIf rfl rfl rfl ⟨rfl, hdX11_throwsIf⟩ ⟨Nat.le_of_ble_eq_true rfl, Nat.le_of_ble_eq_true rfl⟩) ⟨kBlind, va_recv hK hPc (ci := 10) (q0 := 0) rfl rfl, fun U hU hW => ⟨rfl, by rw [hU], hN.warm hW, hE.pass hS hFc hW hU, by rw [hU]; exact hPc, va_K.moved hW.alike hK, hDc⟩⟩ rfl rfl hl.1 rfl (lv_room (Nat.le_of_ble_eq_true rfl)) dX11_home_89 ⟨Nat.le_of_ble_eq_true rfl, Nat.le_of_ble_eq_true rfl⟩) (fun r14161 u H locs hw hP hD hS => ?_)
        obtain ⟨x14162, rfl⟩ : ∃ z, z = u := ⟨_, rfl⟩
        have hP : va_P D vwCl [(aw, kcI cI 2179 fw), (aP, .inl (cB, 400, .inl ft)), (h, oX11 x14162 aw ai ab ac hi re aP 0 0 ta be de fa a5 sp av an ak ne aW aC ag aT aN aF)] H := hP
        have hD : va_D A [(aw, kcI cI 2179 fw), (aP, .inl (cB, 400, .inl ft)), (h, oX11 x14162 aw ai ab ac hi re aP 0 0 ta be de fa a5 sp av an ak ne aW aC ag aT aN aF)] := hD
        obtain ⟨k14163, k14164⟩ := hw
        refine lv_if_ne (tgt := 112) hx hb dX11_home_92 (by decide) (fun _ => ?_) (fun c14166 => absurd c14166 (rg_neq k14163 (rg_lit (n := 0) (by decide)) (by decide)))
        refine lv_iconst (v := 0) hx hb dX11_home_112 (by decide) ?_
        have hP9 := hP.sub (ws' := [(h, oX11 x14162 aw ai ab ac hi re aP 0 0 ta be de fa a5 sp av an ak ne aW aC ag aT aN aF), (aw, kcI cI 2179 fw), (aP, .inl (cB, 400, .inl ft))]) [2, 0, 1] rfl
        have hD9 := hD.sub (ws' := [(h, oX11 x14162 aw ai ab ac hi re aP 0 0 ta be de fa a5 sp av an ak ne aW aC ag aT aN aF), (aw, kcI cI 2179 fw), (aP, .inl (cB, 400, .inl ft))]) [2, 0, 1] (by decide) rfl
        exact W.iret (v := 0) hx hb hr (fun t ht hW => ⟨⟨0, (x14162, ta), rfl, ⟨(rg_w k173 (by decide)), (rg_w (rg_lit (n := 0) (by decide)) (by decide)), (hF2.trans (kIter_out (kC_eq rfl (kif_t (leI c473) (kLet_eq (k475).symm (kif_f (by decide) (kC_eq k14164 rfl)))))))⟩, by rw [ht]; exact hP9, va_K.moved hW.alike hK, hD9⟩, hS.F ht⟩) hS.2.2 dX11_home_113
    · skip
      have k14167 : Rg y470 0 9 := rg_l1 (nleI c473) hy470 k173 (by decide)
      have k14168 : Rg ta 1 10 := rg_l2 (nleI c473) hy470 k173 (by decide)
      refine lv_iload_n hx hb dX11_home_33 rfl (lv_at hl 1 rfl) ?_
      refine k_join (hd := 58) (cells2 := 0) (slots2 := 0) (fun (_ : Unit) => []) (fun (_ : Unit) (H : Heap) (locs : List Loc) (ls : Array Slot) => (F_r_home_l2_s ta.toInt (gT fw) (gT ft) a1.toInt b1.toInt r1.toInt (y470.toInt, y471.toInt) = F_r_home_j6 y470.toInt) ∧ va_P D vwCl [(aw, kcI cI 2179 fw), (aP, .inl (cB, 400, .inl ft)), (h, oX11 0 aw ai ab ac hi re aP 0 0 ta be de fa a5 sp av an ak ne aW aC ag aT aN aF)] H ∧ va_D A [(aw, kcI cI 2179 fw), (aP, .inl (cB, 400, .inl ft)), (h, oX11 0 aw ai ab ac hi re aP 0 0 ta be de fa a5 sp av an ak ne aW aC ag aT aN aF)] ∧ va_S A s.heap H locs ∧ lv_has ls 8 [(4, .int y470), (3, .int y471), (0, .ref h), (1, .int a1), (2, .int b1)]) (fun u H locs ls hI => ?_) (fun hJ58 => ?_)
      · skip
        clear hP hD hS hl
        obtain ⟨hF6, hP, hD, hS, hl⟩ := hI
        have hP : va_P D vwCl [(aw, kcI cI 2179 fw), (aP, .inl (cB, 400, .inl ft)), (h, oX11 0 aw ai ab ac hi re aP 0 0 ta be de fa a5 sp av an ak ne aW aC ag aT aN aF)] H := hP
        have hD : va_D A [(aw, kcI cI 2179 fw), (aP, .inl (cB, 400, .inl ft)), (h, oX11 0 aw ai ab ac hi re aP 0 0 ta be de fa a5 sp av an ak ne aW aC ag aT aN aF)] := hD
        have hl : lv_has ls 8 [(4, .int y470), (3, .int y471), (0, .ref h), (1, .int a1), (2, .int b1)] := hl
        refine lv_iconst (v := 0) hx hb dX11_home_58 (by decide) ?_
        refine lv_istore_n (lv' := [(3, .int 0), (4, .int y470), (0, .ref h), (1, .int a1), (2, .int b1)]) hx hb dX11_home_59 rfl hl (by decide) rfl (fun ls hl => ?_)
        obtain ⟨x14179, ex14179⟩ : ∃ y : Int32, y = y470 + 1 := ⟨_, rfl⟩
        refine lv_iinc (v := x14179) (lv' := [(4, .int x14179), (3, .int 0), (0, .ref h), (1, .int a1), (2, .int b1)]) hx hb dX11_home_60 hl (k := 1) rfl (by rw [ex14179]; rfl) (by decide) rfl (fun ls hl => ?_)
        have k14180 : Rg x14179 1 10 := rg_add ex14179 k14167 (rg_lit (n := 1) (by decide)) (by decide)
        refine lv_goto (tgt := 24) hx hb dX11_home_63 (by decide) ?_
        exact ih472 (x14179, (0 : Int32)) _ _ _ (by show (10 - (x14179).toInt).toNat < (10 - (y470).toInt).toNat; exact mu_up ex14179 k14167 k14180 (by decide)) ⟨(hF2.trans (kIter_go (hF6.trans (kLet_eq (ti_add ex14179 k14167 (rg_lit (n := 1) (by decide)) (by decide) rfl rfl) rfl)))), (rg_w k14180 (by decide)), (rg_w (rg_lit (n := 0) (by decide)) (by decide)), hP.sub (ws' := [(aw, kcI cI 2179 fw), (aP, .inl (cB, 400, .inl ft)), (h, oX11 0 aw ai ab ac hi re aP 0 0 ta be de fa a5 sp av an ak ne aW aC ag aT aN aF)]) [0, 1, 2] rfl, hD.sub (ws' := [(aw, kcI cI 2179 fw), (aP, .inl (cB, 400, .inl ft)), (h, oX11 0 aw ai ab ac hi re aP 0 0 ta be de fa a5 sp av an ak ne aW aC ag aT aN aF)]) [0, 1, 2] (by decide) rfl, hS, lv_sub (l' := [(4, .int x14179), (3, .int 0), (0, .ref h), (1, .int a1), (2, .int b1)]) hl [0, 1, 2, 3, 4] rfl⟩
      refine lv_if_eq (tgt := 58) hx hb dX11_home_34 (by decide) (fun c14181 => ?_) (fun c14181 => ?_)
      · skip
        have k14182 : Rg y471 0 0 := rg_q1 (eqI c14181) hy471 (rg_lit (n := 0) (by decide)) (by decide)
        exact hJ58 () _ _ _ ⟨(kC_eq rfl (kif_f (xF_le c473) (kif_t (eqI c14181) rfl))), hP.sub (ws' := [(aw, kcI cI 2179 fw), (aP, .inl (cB, 400, .inl ft)), (h, oX11 0 aw ai ab ac hi re aP 0 0 ta be de fa a5 sp av an ak ne aW aC ag aT aN aF)]) [0, 1, 2] rfl, hD.sub (ws' := [(aw, kcI cI 2179 fw), (aP, .inl (cB, 400, .inl ft)), (h, oX11 0 aw ai ab ac hi re aP 0 0 ta be de fa a5 sp av an ak ne aW aC ag aT aN aF)]) [0, 1, 2] (by decide) rfl, hS, lv_sub (l' := [(4, .int y470), (3, .int y471), (0, .ref h), (1, .int a1), (2, .int b1)]) hl [0, 1, 2, 3, 4] rfl⟩
      · skip
        have k14183 : Rg y471 1 1 := rg_n1 (neI c14181) hy471 (rg_lit (n := 0) (by decide)) (by decide)
        refine lv_aload_n hx hb dX11_home_37 rfl (lv_at hl 2 rfl) ?_
        refine lv_aload_n hx hb dX11_home_38 rfl (lv_at hl 2 rfl) ?_
        refine va_get (D := D) (ci := 10) (v := .ref aP) (C := RX11) (T := TX11) (N := 26) hx hb hts iG_X11 hown hK hP 2 rfl rfl 7 (by decide) (hts _ w5_8) (fun _ h9 => h9) rfl dX11_home_39 ?_
        refine lv_iload hx hb dX11_home_42 (lv_at hl 0 rfl) ?_
        refine va_bald hx hb hK hP 1 2 rfl rfl (rg_in k14167 (by decide)) dX11_home_44 ?_
        refine lv_topi (fun x14184 ex14184 => ?_)
        refine lv_bipush (v := 48) hx hb dX11_home_45 (by decide) ?_
        refine lv_isub hx hb dX11_home_47 ?_
        refine lv_topi (fun x14185 ex14185 => ?_)
        refine kpurei (wc := [(h, oX11 0 aw ai ab ac hi re aP 0 0 ta be de fa a5 sp av an ak ne aW aC ag aT aN aF), (aw, kcI cI 2179 fw)]) hP hD hS hA [2, 0] rfl (by decide) (fun hPc hDc hFc => va_runV (As := [.int x14185]) (rest := []) ⟨hx, hb, hml, hown, hts⟩ (r_noMan l D cI cJ cB cC h 0 aw ai ab ac hi re aP 0 0 ta be de fa a5 sp av an ak ne aW aC ag aT aN aF fw x14185 H.size H_fw_W) (cwV 1 hts gX11_home_X11_noMan rfl rfl rfl ⟨rfl, hdX11_noMan⟩ ⟨Nat.le_of_ble_eq_true rfl, Nat.le_of_ble_eq_true rfl⟩) ⟨kBlind, va_recv hK hPc (ci := 10) (q0 := 0) rfl rfl, fun U hU hW => ⟨rfl, by rw [hU], hN.warm hW, hE.pass hS hFc hW hU, by rw [hU]; exact hPc, va_K.moved hW.alike hK, hDc⟩⟩ rfl rfl hl.1 rfl (lv_room (Nat.le_of_ble_eq_true rfl)) dX11_home_48 ⟨Nat.le_of_ble_eq_true rfl, Nat.le_of_ble_eq_true rfl⟩) (fun r14186 u H locs hw hP hS => ?_)
        obtain ⟨k14187, hw⟩ := hw
        rcases hw with ⟨rfl, kc14188_0, kc14188_1⟩ | rfl
        · skip
          refine lv_if_ne (tgt := 58) hx hb dX11_home_51 (by decide) (fun c14189 => absurd (by decide) c14189) (fun _ => ?_)
          refine lv_iconst (v := 1) hx hb dX11_home_54 (by decide) ?_
          refine lv_goto (tgt := 59) hx hb dX11_home_55 (by decide) ?_
          refine lv_istore_n (lv' := [(3, .int 1), (4, .int y470), (0, .ref h), (1, .int a1), (2, .int b1)]) hx hb dX11_home_59 rfl hl (by decide) rfl (fun ls hl => ?_)
          obtain ⟨x14190, ex14190⟩ : ∃ y : Int32, y = y470 + 1 := ⟨_, rfl⟩
          refine lv_iinc (v := x14190) (lv' := [(4, .int x14190), (3, .int 1), (0, .ref h), (1, .int a1), (2, .int b1)]) hx hb dX11_home_60 hl (k := 1) rfl (by rw [ex14190]; rfl) (by decide) rfl (fun ls hl => ?_)
          have k14191 : Rg x14190 1 10 := rg_add ex14190 k14167 (rg_lit (n := 1) (by decide)) (by decide)
          refine lv_goto (tgt := 24) hx hb dX11_home_63 (by decide) ?_
          exact ih472 (x14190, (1 : Int32)) _ _ _ (by show (10 - (x14190).toInt).toNat < (10 - (y470).toInt).toNat; exact mu_up ex14190 k14167 k14191 (by decide)) ⟨(hF2.trans (kIter_go (kC_eq rfl (kif_f (xF_le c473) (kif_f (neI c14181) (kLet_eq (ke_ld ex14184) (kLet_eq (ke_wsub ex14185) (kLet_eq (k14187).symm (kif_t rfl (kLet_eq (ti_add ex14190 k14167 (rg_lit (n := 1) (by decide)) (by decide) rfl rfl) rfl)))))))))), (rg_w k14191 (by decide)), (rg_w (rg_lit (n := 1) (by decide)) (by decide)), hP.sub (ws' := [(aw, kcI cI 2179 fw), (aP, .inl (cB, 400, .inl ft)), (h, oX11 0 aw ai ab ac hi re aP 0 0 ta be de fa a5 sp av an ak ne aW aC ag aT aN aF)]) [0, 1, 2] rfl, hD.sub (ws' := [(aw, kcI cI 2179 fw), (aP, .inl (cB, 400, .inl ft)), (h, oX11 0 aw ai ab ac hi re aP 0 0 ta be de fa a5 sp av an ak ne aW aC ag aT aN aF)]) [0, 1, 2] (by decide) rfl, hS, lv_sub (l' := [(4, .int x14190), (3, .int 1), (0, .ref h), (1, .int a1), (2, .int b1)]) hl [0, 1, 2, 3, 4] rfl⟩
        · skip
          refine lv_if_ne (tgt := 58) hx hb dX11_home_51 (by decide) (fun _ => ?_) (fun c14192 => absurd c14192 (by decide))
          exact hJ58 () _ _ _ ⟨(kC_eq rfl (kif_f (xF_le c473) (kif_f (neI c14181) (kLet_eq (ke_ld ex14184) (kLet_eq (ke_wsub ex14185) (kLet_eq (k14187).symm (kif_f (by decide) rfl))))))), hP.sub (ws' := [(aw, kcI cI 2179 fw), (aP, .inl (cB, 400, .inl ft)), (h, oX11 0 aw ai ab ac hi re aP 0 0 ta be de fa a5 sp av an ak ne aW aC ag aT aN aF)]) [0, 1, 2] rfl, hD.sub (ws' := [(aw, kcI cI 2179 fw), (aP, .inl (cB, 400, .inl ft)), (h, oX11 0 aw ai ab ac hi re aP 0 0 ta be de fa a5 sp av an ak ne aW aC ag aT aN aF)]) [0, 1, 2] (by decide) rfl, hS, lv_sub (l' := [(4, .int y470), (3, .int y471), (0, .ref h), (1, .int a1), (2, .int b1)]) hl [0, 1, 2, 3, 4] rfl⟩

