def kwX11_count : List Cond := .code yX11_count cX11_count 4 (some .int) :: kG
theorem hdX11_count : yX11_count.cls ≠ "java/lang/invoke/MethodHandle" ∧ yX11_count.cls ≠ "java/lang/invoke/VarHandle" ∧ (parseMethodDescriptor yX11_count.desc).map (fun d => d.parameters.length) = some 1 := by decide +kernel
theorem gX11_count_J6_bitCount_0f7a4 : GoodIn kG (va_wsS RX11 325 yJ6_bitCount_0f7a4 kwJ6_bitCount_0f7a4) := gK w40_16 (gK w39_12 (gK w39_13 (gK w39_14 gGG)))
theorem gX11_count_X11_chest : GoodIn kG (wsV RX11 360 RX11 yX11_chest kwX11_chest) := gK w53_23 (gK w54_0 (gK w54_1 (gK w0_5 (gK w54_2 gGG))))
theorem gX11_count_X11_in : GoodIn kG (va_wsS RX11 75 yX11_in kwX11_in) := gK w27_8 (gK w27_9 (gK w0_5 (gK w27_10 gGG)))
theorem gX11_count_X11_men : GoodIn kG (wsV RX11 71 RX11 yX11_men kwX11_men) := gK w19_17 (gK w19_18 (gK w19_19 (gK w0_5 (gK w19_20 gGG))))
theorem gX11_count_X11_of : GoodIn kG (wsV RX11 156 RX11 yX11_of kwX11_of) := gK w21_9 (gK w21_10 (gK w21_11 (gK w0_5 (gK w21_12 gGG))))
theorem gX11_count_X11_ofMan : GoodIn kG (wsV RX11 153 RX11 yX11_ofMan kwX11_ofMan) := gK w21_5 (gK w21_6 (gK w21_7 (gK w0_5 (gK w21_8 gGG))))
theorem gX11_count_X11_shirts : GoodIn kG (wsV RX11 79 RX11 yX11_shirts kwX11_shirts) := gK w20_17 (gK w20_18 (gK w20_19 (gK w0_5 (gK w20_20 gGG))))
theorem dX11_count_0 : decode cX11_count 0 = .ok (.aload_n 0, 1) := by decide +kernel
theorem dX11_count_1 : decode cX11_count 1 = .ok (.iconst 0, 1) := by decide +kernel
theorem dX11_count_2 : decode cX11_count 2 = .ok (.putfield 3, 3) := by decide +kernel
theorem dX11_count_5 : decode cX11_count 5 = .ok (.iconst 0, 1) := by decide +kernel
theorem dX11_count_6 : decode cX11_count 6 = .ok (.istore_n 2, 1) := by decide +kernel
theorem dX11_count_7 : decode cX11_count 7 = .ok (.iload_n 1, 1) := by decide +kernel
theorem dX11_count_8 : decode cX11_count 8 = .ok (.tableswitch 185 3 13 #[60, 185, 185, 185, 185, 185, 83, 91, 126, 153, 180], 60) := by decide +kernel
theorem dX11_count_68 : decode cX11_count 68 = .ok (.aload_n 0, 1) := by decide +kernel
theorem dX11_count_69 : decode cX11_count 69 = .ok (.getfield 13, 3) := by decide +kernel
theorem dX11_count_72 : decode cX11_count 72 = .ok (.iconst 3, 1) := by decide +kernel
theorem dX11_count_73 : decode cX11_count 73 = .ok (.iaload, 1) := by decide +kernel
theorem dX11_count_74 : decode cX11_count 74 = .ok (.iconst 1, 1) := by decide +kernel
theorem dX11_count_75 : decode cX11_count 75 = .ok (.if_icmp .ne 14, 3) := by decide +kernel
theorem dX11_count_78 : decode cX11_count 78 = .ok (.aload_n 0, 1) := by decide +kernel
theorem dX11_count_79 : decode cX11_count 79 = .ok (.getfield 13, 3) := by decide +kernel
theorem dX11_count_82 : decode cX11_count 82 = .ok (.sipush 505, 3) := by decide +kernel
theorem dX11_count_85 : decode cX11_count 85 = .ok (.iaload, 1) := by decide +kernel
theorem dX11_count_86 : decode cX11_count 86 = .ok (.goto 4, 3) := by decide +kernel
theorem dX11_count_89 : decode cX11_count 89 = .ok (.iconst (-1), 1) := by decide +kernel
theorem dX11_count_90 : decode cX11_count 90 = .ok (.ireturn, 1) := by decide +kernel
theorem dX11_count_91 : decode cX11_count 91 = .ok (.aload_n 0, 1) := by decide +kernel
theorem dX11_count_92 : decode cX11_count 92 = .ok (.invokevirtual 360, 3) := by decide +kernel
theorem dX11_count_95 : decode cX11_count 95 = .ok (.invokestatic 325, 3) := by decide +kernel
theorem dX11_count_98 : decode cX11_count 98 = .ok (.ireturn, 1) := by decide +kernel
theorem dX11_count_99 : decode cX11_count 99 = .ok (.iconst 0, 1) := by decide +kernel
theorem dX11_count_100 : decode cX11_count 100 = .ok (.istore_n 3, 1) := by decide +kernel
theorem dX11_count_101 : decode cX11_count 101 = .ok (.iload_n 3, 1) := by decide +kernel
theorem dX11_count_102 : decode cX11_count 102 = .ok (.aload_n 0, 1) := by decide +kernel
theorem dX11_count_103 : decode cX11_count 103 = .ok (.invokevirtual 71, 3) := by decide +kernel
theorem dX11_count_106 : decode cX11_count 106 = .ok (.if_icmp .ge 26, 3) := by decide +kernel
theorem dX11_count_109 : decode cX11_count 109 = .ok (.iload_n 2, 1) := by decide +kernel
theorem dX11_count_110 : decode cX11_count 110 = .ok (.aload_n 0, 1) := by decide +kernel
theorem dX11_count_111 : decode cX11_count 111 = .ok (.iload_n 3, 1) := by decide +kernel
theorem dX11_count_112 : decode cX11_count 112 = .ok (.iconst 4, 1) := by decide +kernel
theorem dX11_count_113 : decode cX11_count 113 = .ok (.invokevirtual 153, 3) := by decide +kernel
theorem dX11_count_116 : decode cX11_count 116 = .ok (.ifCond .ge 7, 3) := by decide +kernel
theorem dX11_count_119 : decode cX11_count 119 = .ok (.iconst 1, 1) := by decide +kernel
theorem dX11_count_120 : decode cX11_count 120 = .ok (.goto 4, 3) := by decide +kernel
theorem dX11_count_123 : decode cX11_count 123 = .ok (.iconst 0, 1) := by decide +kernel
theorem dX11_count_124 : decode cX11_count 124 = .ok (.iadd, 1) := by decide +kernel
theorem dX11_count_125 : decode cX11_count 125 = .ok (.istore_n 2, 1) := by decide +kernel
theorem dX11_count_126 : decode cX11_count 126 = .ok (.iinc 3 1, 3) := by decide +kernel
theorem dX11_count_129 : decode cX11_count 129 = .ok (.goto (-28), 3) := by decide +kernel
theorem dX11_count_132 : decode cX11_count 132 = .ok (.iload_n 2, 1) := by decide +kernel
theorem dX11_count_133 : decode cX11_count 133 = .ok (.ireturn, 1) := by decide +kernel
theorem dX11_count_134 : decode cX11_count 134 = .ok (.iconst 0, 1) := by decide +kernel
theorem dX11_count_135 : decode cX11_count 135 = .ok (.istore_n 3, 1) := by decide +kernel
theorem dX11_count_136 : decode cX11_count 136 = .ok (.iload_n 3, 1) := by decide +kernel
theorem dX11_count_137 : decode cX11_count 137 = .ok (.aload_n 0, 1) := by decide +kernel
theorem dX11_count_138 : decode cX11_count 138 = .ok (.invokevirtual 79, 3) := by decide +kernel
theorem dX11_count_141 : decode cX11_count 141 = .ok (.if_icmp .ge 18, 3) := by decide +kernel
theorem dX11_count_144 : decode cX11_count 144 = .ok (.iload_n 2, 1) := by decide +kernel
theorem dX11_count_145 : decode cX11_count 145 = .ok (.aload_n 0, 1) := by decide +kernel
theorem dX11_count_146 : decode cX11_count 146 = .ok (.iload_n 3, 1) := by decide +kernel
theorem dX11_count_147 : decode cX11_count 147 = .ok (.iconst 1, 1) := by decide +kernel
theorem dX11_count_148 : decode cX11_count 148 = .ok (.invokevirtual 156, 3) := by decide +kernel
theorem dX11_count_151 : decode cX11_count 151 = .ok (.iadd, 1) := by decide +kernel
theorem dX11_count_152 : decode cX11_count 152 = .ok (.istore_n 2, 1) := by decide +kernel
theorem dX11_count_153 : decode cX11_count 153 = .ok (.iinc 3 1, 3) := by decide +kernel
theorem dX11_count_156 : decode cX11_count 156 = .ok (.goto (-20), 3) := by decide +kernel
theorem dX11_count_159 : decode cX11_count 159 = .ok (.iload_n 2, 1) := by decide +kernel
theorem dX11_count_160 : decode cX11_count 160 = .ok (.ireturn, 1) := by decide +kernel
theorem dX11_count_161 : decode cX11_count 161 = .ok (.iconst 0, 1) := by decide +kernel
theorem dX11_count_162 : decode cX11_count 162 = .ok (.istore_n 3, 1) := by decide +kernel
theorem dX11_count_163 : decode cX11_count 163 = .ok (.iload_n 3, 1) := by decide +kernel
theorem dX11_count_164 : decode cX11_count 164 = .ok (.aload_n 0, 1) := by decide +kernel
theorem dX11_count_165 : decode cX11_count 165 = .ok (.invokevirtual 79, 3) := by decide +kernel
theorem dX11_count_168 : decode cX11_count 168 = .ok (.if_icmp .ge 18, 3) := by decide +kernel
theorem dX11_count_171 : decode cX11_count 171 = .ok (.iload_n 2, 1) := by decide +kernel
theorem dX11_count_172 : decode cX11_count 172 = .ok (.aload_n 0, 1) := by decide +kernel
theorem dX11_count_173 : decode cX11_count 173 = .ok (.iload_n 3, 1) := by decide +kernel
theorem dX11_count_174 : decode cX11_count 174 = .ok (.iconst 2, 1) := by decide +kernel
theorem dX11_count_175 : decode cX11_count 175 = .ok (.invokevirtual 156, 3) := by decide +kernel
theorem dX11_count_178 : decode cX11_count 178 = .ok (.iadd, 1) := by decide +kernel
theorem dX11_count_179 : decode cX11_count 179 = .ok (.istore_n 2, 1) := by decide +kernel
theorem dX11_count_180 : decode cX11_count 180 = .ok (.iinc 3 1, 3) := by decide +kernel
theorem dX11_count_183 : decode cX11_count 183 = .ok (.goto (-20), 3) := by decide +kernel
theorem dX11_count_186 : decode cX11_count 186 = .ok (.iload_n 2, 1) := by decide +kernel
theorem dX11_count_187 : decode cX11_count 187 = .ok (.ireturn, 1) := by decide +kernel
theorem dX11_count_188 : decode cX11_count 188 = .ok (.aload_n 0, 1) := by decide +kernel
theorem dX11_count_189 : decode cX11_count 189 = .ok (.getfield 68, 3) := by decide +kernel
theorem dX11_count_192 : decode cX11_count 192 = .ok (.ireturn, 1) := by decide +kernel
theorem dX11_count_193 : decode cX11_count 193 = .ok (.iload_n 1, 1) := by decide +kernel
theorem dX11_count_194 : decode cX11_count 194 = .ok (.iconst 0, 1) := by decide +kernel
theorem dX11_count_195 : decode cX11_count 195 = .ok (.bipush 8, 2) := by decide +kernel
theorem dX11_count_197 : decode cX11_count 197 = .ok (.invokestatic 75, 3) := by decide +kernel
theorem dX11_count_200 : decode cX11_count 200 = .ok (.ifCond .eq 12, 3) := by decide +kernel
theorem dX11_count_203 : decode cX11_count 203 = .ok (.aload_n 0, 1) := by decide +kernel
theorem dX11_count_204 : decode cX11_count 204 = .ok (.getfield 13, 3) := by decide +kernel
theorem dX11_count_207 : decode cX11_count 207 = .ok (.iload_n 1, 1) := by decide +kernel
theorem dX11_count_208 : decode cX11_count 208 = .ok (.iaload, 1) := by decide +kernel
theorem dX11_count_209 : decode cX11_count 209 = .ok (.goto 4, 3) := by decide +kernel
theorem dX11_count_212 : decode cX11_count 212 = .ok (.iconst (-1), 1) := by decide +kernel
theorem dX11_count_213 : decode cX11_count 213 = .ok (.ireturn, 1) := by decide +kernel
set_option maxHeartbeats 4000000 in
set_option maxRecDepth 100000 in
/-- reference: count -/
theorem r_count (l : Launch) (D : va_G) (cI cJ cB cC : ClassId) (h : Nat) (th : Int32) (aw : Nat) (ai : Nat) (ab : Nat) (ac : Nat) (hi : Int32) (re : Int32) (aP : Nat) (ta : Int32) (po : Int32) (en : Int32) (be : Int32) (de : Int32) (fa : Int32) (a5 : Nat) (sp : Int32) (av : Nat) (an : Nat) (ak : Nat) (ne : Int32) (aW : Nat) (aC : Nat) (ag : Nat) (aT : Nat) (aN : Nat) (aF : Nat) (fw : Nat → Int32) (a1 : Int32) (sz : Nat) (H_fw_W : wW fw) : Met l yX11_count kwX11_count ({ frames := 2, cells := 0, slots := 0, locals := 44 } : Room) (kPre D (kT cI cJ cB cC) sz [(h, oX11 th aw ai ab ac hi re aP ta po en be de fa a5 sp av an ak ne aW aC ag aT aN aF), (aw, kcI cI 2179 fw)] [.ref h, .int a1]) (va_Qi (fun (r : Int32) (_ : Unit) => F_r_count (re : Int32).toInt (gT fw) (a1 : Int32).toInt = ((r : Int32).toInt)) (fun (_ : Unit) (t : State) => kB D (kT cI cJ cB cC) (va_A [(h, oX11 th aw ai ab ac hi re aP ta po en be de fa a5 sp av an ak ne aW aC ag aT aN aF), (aw, kcI cI 2179 fw)] sz) [(h, oX11 0 aw ai ab ac hi re aP ta po en be de fa a5 sp av an ak ne aW aC ag aT aN aF), (aw, kcI cI 2179 fw)] t) (va_A [(h, oX11 th aw ai ab ac hi re aP ta po en be de fa a5 sp av an ak ne aW aC ag aT aN aF), (aw, kcI cI 2179 fw)] sz)) 0 0 (va_A [(h, oX11 th aw ai ab ac hi re aP ta po en be de fa a5 sp av an ak ne aW aC ag aT aN aF), (aw, kcI cI 2179 fw)] sz) := by
  refine Met.ofW (cc := cX11_count) (maxL := 4) (ret := (some .int)) (by decide) rfl ?_
  intro p e s m args below meth c s₁ B hml hv
  obtain ⟨rfl, hsz, hN, hE, hP, hK, hD0⟩ := hv
  have hx := B.exec
  have hb := B.bytes
  have hr := B.returns
  have hts := fun (w : Cond) (h : w ∈ kG) => atoms_spec (ws := kwX11_count) B.pre w (List.mem_cons_of_mem _ h)
  have hown : s.vm.findClass RX11 = some m.cls := findClass_of_methodNamed B.named
  subst hsz
  have hD := hD0.self (sz := s.heap.size)
  generalize hAe : va_A [(h, oX11 th aw ai ab ac hi re aP ta po en be de fa a5 sp av an ak ne aW aC ag aT aN aF), (aw, kcI cI 2179 fw)] s.heap.size = A at hD hE ⊢
  have hA : ∀ q : Nat, s.heap.size ≤ q → A q := fun q h => by rw [← hAe]; exact Or.inr h
  have hl := lv_entry ([.ref h, .int a1]) (n := 4) (Nat.le_of_ble_eq_true rfl)
  rw [lg_entry_eq]
  generalize (lg_sl ([.ref h, .int a1]) ++ List.replicate (4 - (lg_sl ([.ref h, .int a1])).length) Slot.unset).toArray = ls at hl ⊢
  have hl : lv_has ls 4 [(0, .ref h), (1, .int a1)] := hl
  obtain ⟨H, hH0⟩ : ∃ H, H = s.heap := ⟨_, rfl⟩
  have hS : va_S A s.heap H [] := by rw [hH0]; exact va_S.rf
  have hP : va_P D vwCl [(h, oX11 th aw ai ab ac hi re aP ta po en be de fa a5 sp av an ak ne aW aC ag aT aN aF), (aw, kcI cI 2179 fw)] H := by rw [hH0]; exact hP
  refine kHeap hH0 ?_
  clear hH0
  refine lv_aload_n hx hb dX11_count_0 rfl (lv_at hl 0 rfl) ?_
  refine lv_iconst (v := 0) hx hb dX11_count_1 (by decide) ?_
  refine va_put (D := D) (ci := 10) (v := .int 0) (ty := .int) (C := RX11) (T := TX11) (N := 26) hx hb hts iG_X11 tyX11 tyX11_ok nmX11 hown hK hP hD hS 0 rfl rfl 0 (by decide) (hts _ w6_8) (fun _ h9 => h9) rfl (by decide +kernel) rfl rfl (Nat.le_of_ble_eq_true rfl) dX11_count_2 (fun H locs hP hD hS => ?_)
  have hP : va_P D vwCl [(h, oX11 0 aw ai ab ac hi re aP ta po en be de fa a5 sp av an ak ne aW aC ag aT aN aF), (aw, kcI cI 2179 fw)] H := hP
  have hD : va_D A [(h, oX11 0 aw ai ab ac hi re aP ta po en be de fa a5 sp av an ak ne aW aC ag aT aN aF), (aw, kcI cI 2179 fw)] := hD
  refine lv_iconst (v := 0) hx hb dX11_count_5 (by decide) ?_
  refine lv_istore_n (lv' := [(2, .int 0), (0, .ref h), (1, .int a1)]) hx hb dX11_count_6 rfl hl (by decide) rfl (fun ls hl => ?_)
  refine lv_iload_n hx hb dX11_count_7 rfl (lv_at hl 2 rfl) ?_
  by_cases c1 : a1.toInt < 3 ∨ 13 < a1.toInt
  · skip
    refine lv_tableOut (tgt := 193) hx hb dX11_count_8 c1 (by decide) ?_
    refine lv_iload_n hx hb dX11_count_193 rfl (lv_at hl 2 rfl) ?_
    refine lv_iconst (v := 0) hx hb dX11_count_194 (by decide) ?_
    refine lv_bipush (v := 8) hx hb dX11_count_195 (by decide) ?_
    refine kpurei (wc := []) hP hD hS hA [] rfl (by decide) (fun hPc hDc hFc => va_runS (As := [.int a1, .int 0, .int 8]) (rest := []) ⟨hx, hb, hml, hown, hts⟩ (r_in_0_8 l D cI cJ cB cC a1 H.size) (va_cwS 3 hts gX11_count_X11_in rfl rfl rfl hdX11_in ⟨Nat.le_of_ble_eq_true rfl, Nat.le_of_ble_eq_true rfl⟩) ⟨kBlind, fun U hU hW => ⟨rfl, by rw [hU], hN.warm hW, hE.pass hS hFc hW hU, by rw [hU]; exact hPc, va_K.moved hW.alike hK, hDc⟩⟩ rfl rfl hl.1 rfl (lv_room (Nat.le_of_ble_eq_true rfl)) dX11_count_197 ⟨Nat.le_of_ble_eq_true rfl, Nat.le_of_ble_eq_true rfl⟩) (fun r2 u H locs hw hP hS => ?_)
    obtain ⟨k3, hw⟩ := hw
    rcases hw with rfl | ⟨rfl, kc4_0⟩
    · skip
      refine lv_if_eq (tgt := 212) hx hb dX11_count_200 (by decide) (fun _ => ?_) (fun c6 => absurd (by decide) c6)
      refine lv_iconst (v := (-1)) hx hb dX11_count_212 (by decide) ?_
      have hP9 := hP.sub (ws' := [(h, oX11 0 aw ai ab ac hi re aP ta po en be de fa a5 sp av an ak ne aW aC ag aT aN aF), (aw, kcI cI 2179 fw)]) [0, 1] rfl
      have hD9 := hD.sub (ws' := [(h, oX11 0 aw ai ab ac hi re aP ta po en be de fa a5 sp av an ak ne aW aC ag aT aN aF), (aw, kcI cI 2179 fw)]) [0, 1] (by decide) rfl
      exact W.iret (v := (-1)) hx hb hr (fun t ht hW => ⟨⟨(-1), (), rfl, (kif_t c1 (kLet_eq (k3).symm (kif_t rfl rfl))), by rw [ht]; exact hP9, va_K.moved hW.alike hK, hD9⟩, hS.F ht⟩) hS.2.2 dX11_count_213
    · skip
      refine lv_if_eq (tgt := 212) hx hb dX11_count_200 (by decide) (fun c9 => absurd c9 (by decide)) (fun _ => ?_)
      refine lv_aload_n hx hb dX11_count_203 rfl (lv_at hl 1 rfl) ?_
      refine va_get (D := D) (ci := 10) (v := .ref aw) (C := RX11) (T := TX11) (N := 26) hx hb hts iG_X11 hown hK hP 0 rfl rfl 1 (by decide) (hts _ w5_3) (fun _ h9 => h9) rfl dX11_count_204 ?_
      refine lv_iload_n hx hb dX11_count_207 rfl (lv_at hl 2 rfl) ?_
      refine va_iald hx hb hK hP 1 0 rfl rfl (rg_in kc4_0 (by decide)) dX11_count_208 ?_
      refine lv_topi (fun x10 ex10 => ?_)
      refine lv_goto (tgt := 213) hx hb dX11_count_209 (by decide) ?_
      have hP9 := hP.sub (ws' := [(h, oX11 0 aw ai ab ac hi re aP ta po en be de fa a5 sp av an ak ne aW aC ag aT aN aF), (aw, kcI cI 2179 fw)]) [0, 1] rfl
      have hD9 := hD.sub (ws' := [(h, oX11 0 aw ai ab ac hi re aP ta po en be de fa a5 sp av an ak ne aW aC ag aT aN aF), (aw, kcI cI 2179 fw)]) [0, 1] (by decide) rfl
      exact W.iret (v := x10) hx hb hr (fun t ht hW => ⟨⟨x10, (), rfl, (kif_t c1 (kLet_eq (k3).symm (kif_f (by decide) (kLet_eq (ke_ld ex10) rfl)))), by rw [ht]; exact hP9, va_K.moved hW.alike hK, hD9⟩, hS.F ht⟩) hS.2.2 dX11_count_213
  · skip
    have k11 : Rg a1 3 13 := rg_tab c1 (rg_any a1) (by decide)
    rcases (show a1.toInt = 3 ∨ a1.toInt = 4 ∨ a1.toInt = 5 ∨ a1.toInt = 6 ∨ a1.toInt = 7 ∨ a1.toInt = 8 ∨ a1.toInt = 9 ∨ a1.toInt = 10 ∨ a1.toInt = 11 ∨ a1.toInt = 12 ∨ a1.toInt = 13 by have q := k11; unfold Rg at q; omega) with c12 | c12 | c12 | c12 | c12 | c12 | c12 | c12 | c12 | c12 | c12
    · skip
      refine lv_tableIn (tgt := 68) (off := 60) hx hb dX11_count_8 (by rw [c12]; decide) (by rw [c12]; decide) (by rw [c12]; rfl) (by decide) ?_
      have k13 : Rg a1 3 3 := rg_toI c12
      refine lv_aload_n hx hb dX11_count_68 rfl (lv_at hl 1 rfl) ?_
      refine va_get (D := D) (ci := 10) (v := .ref aw) (C := RX11) (T := TX11) (N := 26) hx hb hts iG_X11 hown hK hP 0 rfl rfl 1 (by decide) (hts _ w5_3) (fun _ h9 => h9) rfl dX11_count_69 ?_
      refine lv_iconst (v := 3) hx hb dX11_count_72 (by decide) ?_
      refine va_iald hx hb hK hP 1 0 rfl rfl (rg_in (rg_lit (n := 3) (by decide)) (by decide)) dX11_count_73 ?_
      refine lv_topi (fun x14 ex14 => ?_)
      refine lv_iconst (v := 1) hx hb dX11_count_74 (by decide) ?_
      refine k_join (hd := 90) (cells2 := 0) (slots2 := 0) (fun (z19 : Int32) => [.int z19]) (fun (z19 : Int32) (H : Heap) (locs : List Loc) (ls : Array Slot) => (F_r_count re.toInt (gT fw) a1.toInt = F_r_count_j1 z19.toInt) ∧ va_P D vwCl [(h, oX11 0 aw ai ab ac hi re aP ta po en be de fa a5 sp av an ak ne aW aC ag aT aN aF), (aw, kcI cI 2179 fw)] H ∧ va_D A [(h, oX11 0 aw ai ab ac hi re aP ta po en be de fa a5 sp av an ak ne aW aC ag aT aN aF), (aw, kcI cI 2179 fw)] ∧ va_S A s.heap H locs ∧ lv_has ls 4 [(2, .int 0), (0, .ref h), (1, .int a1)]) (fun u H locs ls hI => ?_) (fun hJ90 => ?_)
      · skip
        clear hP hD hS hl
        obtain ⟨z19, rfl⟩ : ∃ z, z = u := ⟨_, rfl⟩
        obtain ⟨hF1, hP, hD, hS, hl⟩ := hI
        have hP : va_P D vwCl [(h, oX11 0 aw ai ab ac hi re aP ta po en be de fa a5 sp av an ak ne aW aC ag aT aN aF), (aw, kcI cI 2179 fw)] H := hP
        have hD : va_D A [(h, oX11 0 aw ai ab ac hi re aP ta po en be de fa a5 sp av an ak ne aW aC ag aT aN aF), (aw, kcI cI 2179 fw)] := hD
        have hl : lv_has ls 4 [(2, .int 0), (0, .ref h), (1, .int a1)] := hl
        show W _ _ _ _ _ _ _ _ _ _ _ _ _ _ _ (F0 m 90 ls [.int z19])
        have hP9 := hP.sub (ws' := [(h, oX11 0 aw ai ab ac hi re aP ta po en be de fa a5 sp av an ak ne aW aC ag aT aN aF), (aw, kcI cI 2179 fw)]) [0, 1] rfl
        have hD9 := hD.sub (ws' := [(h, oX11 0 aw ai ab ac hi re aP ta po en be de fa a5 sp av an ak ne aW aC ag aT aN aF), (aw, kcI cI 2179 fw)]) [0, 1] (by decide) rfl
        exact W.iret (v := z19) hx hb hr (fun t ht hW => ⟨⟨z19, (), rfl, (hF1.trans rfl), by rw [ht]; exact hP9, va_K.moved hW.alike hK, hD9⟩, hS.F ht⟩) hS.2.2 dX11_count_90
      refine lv_icmp_ne (tgt := 89) hx hb dX11_count_75 (by decide) (fun c20 => ?_) (fun c20 => ?_)
      · skip
        refine lv_iconst (v := (-1)) hx hb dX11_count_89 (by decide) ?_
        exact hJ90 ((-1 : Int32)) _ _ _ ⟨(kif_f c1 (kif_t c12 (kLet_eq (ke_ld ex14) (kif_f (neI c20) rfl)))), hP.sub (ws' := [(h, oX11 0 aw ai ab ac hi re aP ta po en be de fa a5 sp av an ak ne aW aC ag aT aN aF), (aw, kcI cI 2179 fw)]) [0, 1] rfl, hD.sub (ws' := [(h, oX11 0 aw ai ab ac hi re aP ta po en be de fa a5 sp av an ak ne aW aC ag aT aN aF), (aw, kcI cI 2179 fw)]) [0, 1] (by decide) rfl, hS, lv_sub (l' := [(2, .int 0), (0, .ref h), (1, .int a1)]) hl [0, 1, 2] rfl⟩
      · skip
        have k21 : Rg x14 1 1 := rg_q1 (eqI c20) (rg_any x14) (rg_lit (n := 1) (by decide)) (by decide)
        refine lv_aload_n hx hb dX11_count_78 rfl (lv_at hl 1 rfl) ?_
        refine va_get (D := D) (ci := 10) (v := .ref aw) (C := RX11) (T := TX11) (N := 26) hx hb hts iG_X11 hown hK hP 0 rfl rfl 1 (by decide) (hts _ w5_3) (fun _ h9 => h9) rfl dX11_count_79 ?_
        refine lv_sipush (v := 505) hx hb dX11_count_82 (by decide) ?_
        refine va_iald hx hb hK hP 1 0 rfl rfl (rg_in (rg_lit (n := 505) (by decide)) (by decide)) dX11_count_85 ?_
        refine lv_topi (fun x22 ex22 => ?_)
        refine lv_goto (tgt := 90) hx hb dX11_count_86 (by decide) ?_
        exact hJ90 (x22) _ _ _ ⟨(kif_f c1 (kif_t c12 (kLet_eq (ke_ld ex14) (kif_t (eqI c20) (kLet_eq (ke_ld ex22) rfl))))), hP.sub (ws' := [(h, oX11 0 aw ai ab ac hi re aP ta po en be de fa a5 sp av an ak ne aW aC ag aT aN aF), (aw, kcI cI 2179 fw)]) [0, 1] rfl, hD.sub (ws' := [(h, oX11 0 aw ai ab ac hi re aP ta po en be de fa a5 sp av an ak ne aW aC ag aT aN aF), (aw, kcI cI 2179 fw)]) [0, 1] (by decide) rfl, hS, lv_sub (l' := [(2, .int 0), (0, .ref h), (1, .int a1)]) hl [0, 1, 2] rfl⟩
    · skip
      refine lv_tableIn (tgt := 193) (off := 185) hx hb dX11_count_8 (by rw [c12]; decide) (by rw [c12]; decide) (by rw [c12]; rfl) (by decide) ?_
      have k23 : Rg a1 4 4 := rg_toI c12
      refine lv_iload_n hx hb dX11_count_193 rfl (lv_at hl 2 rfl) ?_
      refine lv_iconst (v := 0) hx hb dX11_count_194 (by decide) ?_
      refine lv_bipush (v := 8) hx hb dX11_count_195 (by decide) ?_
      refine kpurei (wc := []) hP hD hS hA [] rfl (by decide) (fun hPc hDc hFc => va_runS (As := [.int a1, .int 0, .int 8]) (rest := []) ⟨hx, hb, hml, hown, hts⟩ (r_in_0_8 l D cI cJ cB cC a1 H.size) (va_cwS 3 hts gX11_count_X11_in rfl rfl rfl hdX11_in ⟨Nat.le_of_ble_eq_true rfl, Nat.le_of_ble_eq_true rfl⟩) ⟨kBlind, fun U hU hW => ⟨rfl, by rw [hU], hN.warm hW, hE.pass hS hFc hW hU, by rw [hU]; exact hPc, va_K.moved hW.alike hK, hDc⟩⟩ rfl rfl hl.1 rfl (lv_room (Nat.le_of_ble_eq_true rfl)) dX11_count_197 ⟨Nat.le_of_ble_eq_true rfl, Nat.le_of_ble_eq_true rfl⟩) (fun r24 u H locs hw hP hS => ?_)
      obtain ⟨k25, hw⟩ := hw
      rcases hw with rfl | ⟨rfl, kc26_0⟩
      · skip
        refine lv_if_eq (tgt := 212) hx hb dX11_count_200 (by decide) (fun _ => ?_) (fun c28 => absurd (by decide) c28)
        refine lv_iconst (v := (-1)) hx hb dX11_count_212 (by decide) ?_
        have hP9 := hP.sub (ws' := [(h, oX11 0 aw ai ab ac hi re aP ta po en be de fa a5 sp av an ak ne aW aC ag aT aN aF), (aw, kcI cI 2179 fw)]) [0, 1] rfl
        have hD9 := hD.sub (ws' := [(h, oX11 0 aw ai ab ac hi re aP ta po en be de fa a5 sp av an ak ne aW aC ag aT aN aF), (aw, kcI cI 2179 fw)]) [0, 1] (by decide) rfl
        exact W.iret (v := (-1)) hx hb hr (fun t ht hW => ⟨⟨(-1), (), rfl, (kif_f c1 (kif_f (fun q9 => absurd (c12.symm.trans q9) (by decide)) (kif_t c12 (kLet_eq (k25).symm (kif_t rfl rfl))))), by rw [ht]; exact hP9, va_K.moved hW.alike hK, hD9⟩, hS.F ht⟩) hS.2.2 dX11_count_213
      · skip
        refine lv_if_eq (tgt := 212) hx hb dX11_count_200 (by decide) (fun c31 => absurd c31 (by decide)) (fun _ => ?_)
        refine lv_aload_n hx hb dX11_count_203 rfl (lv_at hl 1 rfl) ?_
        refine va_get (D := D) (ci := 10) (v := .ref aw) (C := RX11) (T := TX11) (N := 26) hx hb hts iG_X11 hown hK hP 0 rfl rfl 1 (by decide) (hts _ w5_3) (fun _ h9 => h9) rfl dX11_count_204 ?_
        refine lv_iload_n hx hb dX11_count_207 rfl (lv_at hl 2 rfl) ?_
        refine va_iald hx hb hK hP 1 0 rfl rfl (rg_in k23 (by decide)) dX11_count_208 ?_
        refine lv_topi (fun x32 ex32 => ?_)
        refine lv_goto (tgt := 213) hx hb dX11_count_209 (by decide) ?_
        have hP9 := hP.sub (ws' := [(h, oX11 0 aw ai ab ac hi re aP ta po en be de fa a5 sp av an ak ne aW aC ag aT aN aF), (aw, kcI cI 2179 fw)]) [0, 1] rfl
        have hD9 := hD.sub (ws' := [(h, oX11 0 aw ai ab ac hi re aP ta po en be de fa a5 sp av an ak ne aW aC ag aT aN aF), (aw, kcI cI 2179 fw)]) [0, 1] (by decide) rfl
        exact W.iret (v := x32) hx hb hr (fun t ht hW => ⟨⟨x32, (), rfl, (kif_f c1 (kif_f (fun q9 => absurd (c12.symm.trans q9) (by decide)) (kif_t c12 (kLet_eq (k25).symm (kif_f (by decide) (kLet_eq (ke_ld ex32) rfl)))))), by rw [ht]; exact hP9, va_K.moved hW.alike hK, hD9⟩, hS.F ht⟩) hS.2.2 dX11_count_213
    · skip
      refine lv_tableIn (tgt := 193) (off := 185) hx hb dX11_count_8 (by rw [c12]; decide) (by rw [c12]; decide) (by rw [c12]; rfl) (by decide) ?_
      have k33 : Rg a1 5 5 := rg_toI c12
      refine lv_iload_n hx hb dX11_count_193 rfl (lv_at hl 2 rfl) ?_
      refine lv_iconst (v := 0) hx hb dX11_count_194 (by decide) ?_
      refine lv_bipush (v := 8) hx hb dX11_count_195 (by decide) ?_
      refine kpurei (wc := []) hP hD hS hA [] rfl (by decide) (fun hPc hDc hFc => va_runS (As := [.int a1, .int 0, .int 8]) (rest := []) ⟨hx, hb, hml, hown, hts⟩ (r_in_0_8 l D cI cJ cB cC a1 H.size) (va_cwS 3 hts gX11_count_X11_in rfl rfl rfl hdX11_in ⟨Nat.le_of_ble_eq_true rfl, Nat.le_of_ble_eq_true rfl⟩) ⟨kBlind, fun U hU hW => ⟨rfl, by rw [hU], hN.warm hW, hE.pass hS hFc hW hU, by rw [hU]; exact hPc, va_K.moved hW.alike hK, hDc⟩⟩ rfl rfl hl.1 rfl (lv_room (Nat.le_of_ble_eq_true rfl)) dX11_count_197 ⟨Nat.le_of_ble_eq_true rfl, Nat.le_of_ble_eq_true rfl⟩) (fun r34 u H locs hw hP hS => ?_)
      obtain ⟨k35, hw⟩ := hw
      rcases hw with rfl | ⟨rfl, kc36_0⟩
      · skip
        refine lv_if_eq (tgt := 212) hx hb dX11_count_200 (by decide) (fun _ => ?_) (fun c38 => absurd (by decide) c38)
        refine lv_iconst (v := (-1)) hx hb dX11_count_212 (by decide) ?_
        have hP9 := hP.sub (ws' := [(h, oX11 0 aw ai ab ac hi re aP ta po en be de fa a5 sp av an ak ne aW aC ag aT aN aF), (aw, kcI cI 2179 fw)]) [0, 1] rfl
        have hD9 := hD.sub (ws' := [(h, oX11 0 aw ai ab ac hi re aP ta po en be de fa a5 sp av an ak ne aW aC ag aT aN aF), (aw, kcI cI 2179 fw)]) [0, 1] (by decide) rfl
        exact W.iret (v := (-1)) hx hb hr (fun t ht hW => ⟨⟨(-1), (), rfl, (kif_f c1 (kif_f (fun q9 => absurd (c12.symm.trans q9) (by decide)) (kif_f (fun q9 => absurd (c12.symm.trans q9) (by decide)) (kif_t c12 (kLet_eq (k35).symm (kif_t rfl rfl)))))), by rw [ht]; exact hP9, va_K.moved hW.alike hK, hD9⟩, hS.F ht⟩) hS.2.2 dX11_count_213
      · skip
        refine lv_if_eq (tgt := 212) hx hb dX11_count_200 (by decide) (fun c41 => absurd c41 (by decide)) (fun _ => ?_)
        refine lv_aload_n hx hb dX11_count_203 rfl (lv_at hl 1 rfl) ?_
        refine va_get (D := D) (ci := 10) (v := .ref aw) (C := RX11) (T := TX11) (N := 26) hx hb hts iG_X11 hown hK hP 0 rfl rfl 1 (by decide) (hts _ w5_3) (fun _ h9 => h9) rfl dX11_count_204 ?_
        refine lv_iload_n hx hb dX11_count_207 rfl (lv_at hl 2 rfl) ?_
        refine va_iald hx hb hK hP 1 0 rfl rfl (rg_in k33 (by decide)) dX11_count_208 ?_
        refine lv_topi (fun x42 ex42 => ?_)
        refine lv_goto (tgt := 213) hx hb dX11_count_209 (by decide) ?_
        have hP9 := hP.sub (ws' := [(h, oX11 0 aw ai ab ac hi re aP ta po en be de fa a5 sp av an ak ne aW aC ag aT aN aF), (aw, kcI cI 2179 fw)]) [0, 1] rfl
        have hD9 := hD.sub (ws' := [(h, oX11 0 aw ai ab ac hi re aP ta po en be de fa a5 sp av an ak ne aW aC ag aT aN aF), (aw, kcI cI 2179 fw)]) [0, 1] (by decide) rfl
        exact W.iret (v := x42) hx hb hr (fun t ht hW => ⟨⟨x42, (), rfl, (kif_f c1 (kif_f (fun q9 => absurd (c12.symm.trans q9) (by decide)) (kif_f (fun q9 => absurd (c12.symm.trans q9) (by decide)) (kif_t c12 (kLet_eq (k35).symm (kif_f (by decide) (kLet_eq (ke_ld ex42) rfl))))))), by rw [ht]; exact hP9, va_K.moved hW.alike hK, hD9⟩, hS.F ht⟩) hS.2.2 dX11_count_213
    · skip
      refine lv_tableIn (tgt := 193) (off := 185) hx hb dX11_count_8 (by rw [c12]; decide) (by rw [c12]; decide) (by rw [c12]; rfl) (by decide) ?_
      have k43 : Rg a1 6 6 := rg_toI c12
      refine lv_iload_n hx hb dX11_count_193 rfl (lv_at hl 2 rfl) ?_
      refine lv_iconst (v := 0) hx hb dX11_count_194 (by decide) ?_
      refine lv_bipush (v := 8) hx hb dX11_count_195 (by decide) ?_
      refine kpurei (wc := []) hP hD hS hA [] rfl (by decide) (fun hPc hDc hFc => va_runS (As := [.int a1, .int 0, .int 8]) (rest := []) ⟨hx, hb, hml, hown, hts⟩ (r_in_0_8 l D cI cJ cB cC a1 H.size) (va_cwS 3 hts gX11_count_X11_in rfl rfl rfl hdX11_in ⟨Nat.le_of_ble_eq_true rfl, Nat.le_of_ble_eq_true rfl⟩) ⟨kBlind, fun U hU hW => ⟨rfl, by rw [hU], hN.warm hW, hE.pass hS hFc hW hU, by rw [hU]; exact hPc, va_K.moved hW.alike hK, hDc⟩⟩ rfl rfl hl.1 rfl (lv_room (Nat.le_of_ble_eq_true rfl)) dX11_count_197 ⟨Nat.le_of_ble_eq_true rfl, Nat.le_of_ble_eq_true rfl⟩) (fun r44 u H locs hw hP hS => ?_)
      obtain ⟨k45, hw⟩ := hw
      rcases hw with rfl | ⟨rfl, kc46_0⟩
      · skip
        refine lv_if_eq (tgt := 212) hx hb dX11_count_200 (by decide) (fun _ => ?_) (fun c48 => absurd (by decide) c48)
        refine lv_iconst (v := (-1)) hx hb dX11_count_212 (by decide) ?_
        have hP9 := hP.sub (ws' := [(h, oX11 0 aw ai ab ac hi re aP ta po en be de fa a5 sp av an ak ne aW aC ag aT aN aF), (aw, kcI cI 2179 fw)]) [0, 1] rfl
        have hD9 := hD.sub (ws' := [(h, oX11 0 aw ai ab ac hi re aP ta po en be de fa a5 sp av an ak ne aW aC ag aT aN aF), (aw, kcI cI 2179 fw)]) [0, 1] (by decide) rfl
        exact W.iret (v := (-1)) hx hb hr (fun t ht hW => ⟨⟨(-1), (), rfl, (kif_f c1 (kif_f (fun q9 => absurd (c12.symm.trans q9) (by decide)) (kif_f (fun q9 => absurd (c12.symm.trans q9) (by decide)) (kif_f (fun q9 => absurd (c12.symm.trans q9) (by decide)) (kif_t c12 (kLet_eq (k45).symm (kif_t rfl rfl))))))), by rw [ht]; exact hP9, va_K.moved hW.alike hK, hD9⟩, hS.F ht⟩) hS.2.2 dX11_count_213
      · skip
        refine lv_if_eq (tgt := 212) hx hb dX11_count_200 (by decide) (fun c51 => absurd c51 (by decide)) (fun _ => ?_)
        refine lv_aload_n hx hb dX11_count_203 rfl (lv_at hl 1 rfl) ?_
        refine va_get (D := D) (ci := 10) (v := .ref aw) (C := RX11) (T := TX11) (N := 26) hx hb hts iG_X11 hown hK hP 0 rfl rfl 1 (by decide) (hts _ w5_3) (fun _ h9 => h9) rfl dX11_count_204 ?_
        refine lv_iload_n hx hb dX11_count_207 rfl (lv_at hl 2 rfl) ?_
        refine va_iald hx hb hK hP 1 0 rfl rfl (rg_in k43 (by decide)) dX11_count_208 ?_
        refine lv_topi (fun x52 ex52 => ?_)
        refine lv_goto (tgt := 213) hx hb dX11_count_209 (by decide) ?_
        have hP9 := hP.sub (ws' := [(h, oX11 0 aw ai ab ac hi re aP ta po en be de fa a5 sp av an ak ne aW aC ag aT aN aF), (aw, kcI cI 2179 fw)]) [0, 1] rfl
        have hD9 := hD.sub (ws' := [(h, oX11 0 aw ai ab ac hi re aP ta po en be de fa a5 sp av an ak ne aW aC ag aT aN aF), (aw, kcI cI 2179 fw)]) [0, 1] (by decide) rfl
        exact W.iret (v := x52) hx hb hr (fun t ht hW => ⟨⟨x52, (), rfl, (kif_f c1 (kif_f (fun q9 => absurd (c12.symm.trans q9) (by decide)) (kif_f (fun q9 => absurd (c12.symm.trans q9) (by decide)) (kif_f (fun q9 => absurd (c12.symm.trans q9) (by decide)) (kif_t c12 (kLet_eq (k45).symm (kif_f (by decide) (kLet_eq (ke_ld ex52) rfl)))))))), by rw [ht]; exact hP9, va_K.moved hW.alike hK, hD9⟩, hS.F ht⟩) hS.2.2 dX11_count_213
    · skip
      refine lv_tableIn (tgt := 193) (off := 185) hx hb dX11_count_8 (by rw [c12]; decide) (by rw [c12]; decide) (by rw [c12]; rfl) (by decide) ?_
      have k53 : Rg a1 7 7 := rg_toI c12
      refine lv_iload_n hx hb dX11_count_193 rfl (lv_at hl 2 rfl) ?_
      refine lv_iconst (v := 0) hx hb dX11_count_194 (by decide) ?_
      refine lv_bipush (v := 8) hx hb dX11_count_195 (by decide) ?_
      refine kpurei (wc := []) hP hD hS hA [] rfl (by decide) (fun hPc hDc hFc => va_runS (As := [.int a1, .int 0, .int 8]) (rest := []) ⟨hx, hb, hml, hown, hts⟩ (r_in_0_8 l D cI cJ cB cC a1 H.size) (va_cwS 3 hts gX11_count_X11_in rfl rfl rfl hdX11_in ⟨Nat.le_of_ble_eq_true rfl, Nat.le_of_ble_eq_true rfl⟩) ⟨kBlind, fun U hU hW => ⟨rfl, by rw [hU], hN.warm hW, hE.pass hS hFc hW hU, by rw [hU]; exact hPc, va_K.moved hW.alike hK, hDc⟩⟩ rfl rfl hl.1 rfl (lv_room (Nat.le_of_ble_eq_true rfl)) dX11_count_197 ⟨Nat.le_of_ble_eq_true rfl, Nat.le_of_ble_eq_true rfl⟩) (fun r54 u H locs hw hP hS => ?_)
      obtain ⟨k55, hw⟩ := hw
      rcases hw with rfl | ⟨rfl, kc56_0⟩
      · skip
        refine lv_if_eq (tgt := 212) hx hb dX11_count_200 (by decide) (fun _ => ?_) (fun c58 => absurd (by decide) c58)
        refine lv_iconst (v := (-1)) hx hb dX11_count_212 (by decide) ?_
        have hP9 := hP.sub (ws' := [(h, oX11 0 aw ai ab ac hi re aP ta po en be de fa a5 sp av an ak ne aW aC ag aT aN aF), (aw, kcI cI 2179 fw)]) [0, 1] rfl
        have hD9 := hD.sub (ws' := [(h, oX11 0 aw ai ab ac hi re aP ta po en be de fa a5 sp av an ak ne aW aC ag aT aN aF), (aw, kcI cI 2179 fw)]) [0, 1] (by decide) rfl
        exact W.iret (v := (-1)) hx hb hr (fun t ht hW => ⟨⟨(-1), (), rfl, (kif_f c1 (kif_f (fun q9 => absurd (c12.symm.trans q9) (by decide)) (kif_f (fun q9 => absurd (c12.symm.trans q9) (by decide)) (kif_f (fun q9 => absurd (c12.symm.trans q9) (by decide)) (kif_f (fun q9 => absurd (c12.symm.trans q9) (by decide)) (kif_t c12 (kLet_eq (k55).symm (kif_t rfl rfl)))))))), by rw [ht]; exact hP9, va_K.moved hW.alike hK, hD9⟩, hS.F ht⟩) hS.2.2 dX11_count_213
      · skip
        refine lv_if_eq (tgt := 212) hx hb dX11_count_200 (by decide) (fun c61 => absurd c61 (by decide)) (fun _ => ?_)
        refine lv_aload_n hx hb dX11_count_203 rfl (lv_at hl 1 rfl) ?_
        refine va_get (D := D) (ci := 10) (v := .ref aw) (C := RX11) (T := TX11) (N := 26) hx hb hts iG_X11 hown hK hP 0 rfl rfl 1 (by decide) (hts _ w5_3) (fun _ h9 => h9) rfl dX11_count_204 ?_
        refine lv_iload_n hx hb dX11_count_207 rfl (lv_at hl 2 rfl) ?_
        refine va_iald hx hb hK hP 1 0 rfl rfl (rg_in k53 (by decide)) dX11_count_208 ?_
        refine lv_topi (fun x62 ex62 => ?_)
        refine lv_goto (tgt := 213) hx hb dX11_count_209 (by decide) ?_
        have hP9 := hP.sub (ws' := [(h, oX11 0 aw ai ab ac hi re aP ta po en be de fa a5 sp av an ak ne aW aC ag aT aN aF), (aw, kcI cI 2179 fw)]) [0, 1] rfl
        have hD9 := hD.sub (ws' := [(h, oX11 0 aw ai ab ac hi re aP ta po en be de fa a5 sp av an ak ne aW aC ag aT aN aF), (aw, kcI cI 2179 fw)]) [0, 1] (by decide) rfl
        exact W.iret (v := x62) hx hb hr (fun t ht hW => ⟨⟨x62, (), rfl, (kif_f c1 (kif_f (fun q9 => absurd (c12.symm.trans q9) (by decide)) (kif_f (fun q9 => absurd (c12.symm.trans q9) (by decide)) (kif_f (fun q9 => absurd (c12.symm.trans q9) (by decide)) (kif_f (fun q9 => absurd (c12.symm.trans q9) (by decide)) (kif_t c12 (kLet_eq (k55).symm (kif_f (by decide) (kLet_eq (ke_ld ex62) rfl))))))))), by rw [ht]; exact hP9, va_K.moved hW.alike hK, hD9⟩, hS.F ht⟩) hS.2.2 dX11_count_213
    · skip
      refine lv_tableIn (tgt := 193) (off := 185) hx hb dX11_count_8 (by rw [c12]; decide) (by rw [c12]; decide) (by rw [c12]; rfl) (by decide) ?_
      have k63 : Rg a1 8 8 := rg_toI c12
      refine lv_iload_n hx hb dX11_count_193 rfl (lv_at hl 2 rfl) ?_
      refine lv_iconst (v := 0) hx hb dX11_count_194 (by decide) ?_
      refine lv_bipush (v := 8) hx hb dX11_count_195 (by decide) ?_
      refine kpurei (wc := []) hP hD hS hA [] rfl (by decide) (fun hPc hDc hFc => va_runS (As := [.int a1, .int 0, .int 8]) (rest := []) ⟨hx, hb, hml, hown, hts⟩ (r_in_0_8 l D cI cJ cB cC a1 H.size) (va_cwS 3 hts gX11_count_X11_in rfl rfl rfl hdX11_in ⟨Nat.le_of_ble_eq_true rfl, Nat.le_of_ble_eq_true rfl⟩) ⟨kBlind, fun U hU hW => ⟨rfl, by rw [hU], hN.warm hW, hE.pass hS hFc hW hU, by rw [hU]; exact hPc, va_K.moved hW.alike hK, hDc⟩⟩ rfl rfl hl.1 rfl (lv_room (Nat.le_of_ble_eq_true rfl)) dX11_count_197 ⟨Nat.le_of_ble_eq_true rfl, Nat.le_of_ble_eq_true rfl⟩) (fun r64 u H locs hw hP hS => ?_)
      obtain ⟨k65, hw⟩ := hw
      rcases hw with rfl | ⟨rfl, kc66_0⟩
      · skip
        refine lv_if_eq (tgt := 212) hx hb dX11_count_200 (by decide) (fun _ => ?_) (fun c68 => absurd (by decide) c68)
        refine lv_iconst (v := (-1)) hx hb dX11_count_212 (by decide) ?_
        have hP9 := hP.sub (ws' := [(h, oX11 0 aw ai ab ac hi re aP ta po en be de fa a5 sp av an ak ne aW aC ag aT aN aF), (aw, kcI cI 2179 fw)]) [0, 1] rfl
        have hD9 := hD.sub (ws' := [(h, oX11 0 aw ai ab ac hi re aP ta po en be de fa a5 sp av an ak ne aW aC ag aT aN aF), (aw, kcI cI 2179 fw)]) [0, 1] (by decide) rfl
        exact W.iret (v := (-1)) hx hb hr (fun t ht hW => ⟨⟨(-1), (), rfl, (kif_f c1 (kif_f (fun q9 => absurd (c12.symm.trans q9) (by decide)) (kif_f (fun q9 => absurd (c12.symm.trans q9) (by decide)) (kif_f (fun q9 => absurd (c12.symm.trans q9) (by decide)) (kif_f (fun q9 => absurd (c12.symm.trans q9) (by decide)) (kif_f (fun q9 => absurd (c12.symm.trans q9) (by decide)) (kif_t c12 (kLet_eq (k65).symm (kif_t rfl rfl))))))))), by rw [ht]; exact hP9, va_K.moved hW.alike hK, hD9⟩, hS.F ht⟩) hS.2.2 dX11_count_213
      · skip
        refine lv_if_eq (tgt := 212) hx hb dX11_count_200 (by decide) (fun c71 => absurd c71 (by decide)) (fun _ => ?_)
        refine lv_aload_n hx hb dX11_count_203 rfl (lv_at hl 1 rfl) ?_
        refine va_get (D := D) (ci := 10) (v := .ref aw) (C := RX11) (T := TX11) (N := 26) hx hb hts iG_X11 hown hK hP 0 rfl rfl 1 (by decide) (hts _ w5_3) (fun _ h9 => h9) rfl dX11_count_204 ?_
        refine lv_iload_n hx hb dX11_count_207 rfl (lv_at hl 2 rfl) ?_
        refine va_iald hx hb hK hP 1 0 rfl rfl (rg_in k63 (by decide)) dX11_count_208 ?_
        refine lv_topi (fun x72 ex72 => ?_)
        refine lv_goto (tgt := 213) hx hb dX11_count_209 (by decide) ?_
        have hP9 := hP.sub (ws' := [(h, oX11 0 aw ai ab ac hi re aP ta po en be de fa a5 sp av an ak ne aW aC ag aT aN aF), (aw, kcI cI 2179 fw)]) [0, 1] rfl
        have hD9 := hD.sub (ws' := [(h, oX11 0 aw ai ab ac hi re aP ta po en be de fa a5 sp av an ak ne aW aC ag aT aN aF), (aw, kcI cI 2179 fw)]) [0, 1] (by decide) rfl
        exact W.iret (v := x72) hx hb hr (fun t ht hW => ⟨⟨x72, (), rfl, (kif_f c1 (kif_f (fun q9 => absurd (c12.symm.trans q9) (by decide)) (kif_f (fun q9 => absurd (c12.symm.trans q9) (by decide)) (kif_f (fun q9 => absurd (c12.symm.trans q9) (by decide)) (kif_f (fun q9 => absurd (c12.symm.trans q9) (by decide)) (kif_f (fun q9 => absurd (c12.symm.trans q9) (by decide)) (kif_t c12 (kLet_eq (k65).symm (kif_f (by decide) (kLet_eq (ke_ld ex72) rfl)))))))))), by rw [ht]; exact hP9, va_K.moved hW.alike hK, hD9⟩, hS.F ht⟩) hS.2.2 dX11_count_213
    · skip
      refine lv_tableIn (tgt := 91) (off := 83) hx hb dX11_count_8 (by rw [c12]; decide) (by rw [c12]; decide) (by rw [c12]; rfl) (by decide) ?_
      have k73 : Rg a1 9 9 := rg_toI c12
      refine lv_aload_n hx hb dX11_count_91 rfl (lv_at hl 1 rfl) ?_
      refine kpurei (wc := [(h, oX11 0 aw ai ab ac hi re aP ta po en be de fa a5 sp av an ak ne aW aC ag aT aN aF), (aw, kcI cI 2179 fw)]) hP hD hS hA [0, 1] rfl (by decide) (fun hPc hDc hFc => va_runV (As := []) (rest := []) ⟨hx, hb, hml, hown, hts⟩ (r_chest l D cI cJ cB cC h 0 aw ai ab ac hi re aP ta po en be de fa a5 sp av an ak ne aW aC ag aT aN aF fw H.size H_fw_W) (cwV 0 hts gX11_count_X11_chest rfl rfl rfl ⟨rfl, hdX11_chest⟩ ⟨Nat.le_of_ble_eq_true rfl, Nat.le_of_ble_eq_true rfl⟩) ⟨kBlind, va_recv hK hPc (ci := 10) (q0 := 0) rfl rfl, fun U hU hW => ⟨rfl, by rw [hU], hN.warm hW, hE.pass hS hFc hW hU, by rw [hU]; exact hPc, va_K.moved hW.alike hK, hDc⟩⟩ rfl rfl hl.1 rfl (lv_room (Nat.le_of_ble_eq_true rfl)) dX11_count_92 ⟨Nat.le_of_ble_eq_true rfl, Nat.le_of_ble_eq_true rfl⟩) (fun r74 u H locs hw hP hS => ?_)
      obtain ⟨k75, k76⟩ := hw
      refine kpurei (wc := []) hP hD hS hA [] rfl (by decide) (fun hPc hDc hFc => va_runS (As := [.int r74]) (rest := []) ⟨hx, hb, hml, hown, hts⟩ (z_bitCount l D cI cJ cB cC r74 H.size) (va_cwS 1 hts gX11_count_J6_bitCount_0f7a4 rfl rfl rfl hdJ6_bitCount_0f7a4 ⟨Nat.le_of_ble_eq_true rfl, Nat.le_of_ble_eq_true rfl⟩) ⟨kBlind, fun U hU hW => ⟨rfl, by rw [hU], hN.warm hW, hE.pass hS hFc hW hU, by rw [hU]; exact hPc, va_K.moved hW.alike hK, hDc⟩⟩ rfl rfl hl.1 rfl (lv_room (Nat.le_of_ble_eq_true rfl)) dX11_count_95 ⟨Nat.le_of_ble_eq_true rfl, Nat.le_of_ble_eq_true rfl⟩) (fun r77 u H locs hw hP hS => ?_)
      obtain ⟨k78, k79⟩ := hw
      have hP9 := hP.sub (ws' := [(h, oX11 0 aw ai ab ac hi re aP ta po en be de fa a5 sp av an ak ne aW aC ag aT aN aF), (aw, kcI cI 2179 fw)]) [0, 1] rfl
      have hD9 := hD.sub (ws' := [(h, oX11 0 aw ai ab ac hi re aP ta po en be de fa a5 sp av an ak ne aW aC ag aT aN aF), (aw, kcI cI 2179 fw)]) [0, 1] (by decide) rfl
      exact W.iret (v := r77) hx hb hr (fun t ht hW => ⟨⟨r77, (), rfl, (kif_f c1 (kif_f (fun q9 => absurd (c12.symm.trans q9) (by decide)) (kif_f (fun q9 => absurd (c12.symm.trans q9) (by decide)) (kif_f (fun q9 => absurd (c12.symm.trans q9) (by decide)) (kif_f (fun q9 => absurd (c12.symm.trans q9) (by decide)) (kif_f (fun q9 => absurd (c12.symm.trans q9) (by decide)) (kif_f (fun q9 => absurd (c12.symm.trans q9) (by decide)) (kif_t c12 (kLet_eq (k76).symm (kLet_eq (k79).symm rfl)))))))))), by rw [ht]; exact hP9, va_K.moved hW.alike hK, hD9⟩, hS.F ht⟩) hS.2.2 dX11_count_98
    · skip
      refine lv_tableIn (tgt := 99) (off := 91) hx hb dX11_count_8 (by rw [c12]; decide) (by rw [c12]; decide) (by rw [c12]; rfl) (by decide) ?_
      have k80 : Rg a1 10 10 := rg_toI c12
      refine lv_iconst (v := 0) hx hb dX11_count_99 (by decide) ?_
      refine lv_istore_n (lv' := [(3, .int 0), (2, .int 0), (0, .ref h), (1, .int a1)]) hx hb dX11_count_100 rfl hl (by decide) rfl (fun ls hl => ?_)
      refine k_loop (hd := 101) (fun (u : Int32 × Int32) => match u with | (y436, y437) => (10 - (y436).toInt).toNat) (fun (u : Int32 × Int32) (H : Heap) (locs : List Loc) (ls : Array Slot) => match u with | (y436, y437) => (F_r_count re.toInt (gT fw) a1.toInt = F_r_count_l2 (gT fw) (y436.toInt, y437.toInt)) ∧ Rg y436 0 10 ∧ va_P D vwCl [(h, oX11 0 aw ai ab ac hi re aP ta po en be de fa a5 sp av an ak ne aW aC ag aT aN aF), (aw, kcI cI 2179 fw)] H ∧ va_D A [(h, oX11 0 aw ai ab ac hi re aP ta po en be de fa a5 sp av an ak ne aW aC ag aT aN aF), (aw, kcI cI 2179 fw)] ∧ va_S A s.heap H locs ∧ lv_has ls 4 [(3, .int y436), (2, .int y437), (0, .ref h), (1, .int a1)]) ((0 : Int32), (0 : Int32)) ⟨(kif_f c1 (kif_f (fun q9 => absurd (c12.symm.trans q9) (by decide)) (kif_f (fun q9 => absurd (c12.symm.trans q9) (by decide)) (kif_f (fun q9 => absurd (c12.symm.trans q9) (by decide)) (kif_f (fun q9 => absurd (c12.symm.trans q9) (by decide)) (kif_f (fun q9 => absurd (c12.symm.trans q9) (by decide)) (kif_f (fun q9 => absurd (c12.symm.trans q9) (by decide)) (kif_f (fun q9 => absurd (c12.symm.trans q9) (by decide)) (kif_t c12 rfl))))))))), (rg_w (rg_lit (n := 0) (by decide)) (by decide)), hP.sub (ws' := [(h, oX11 0 aw ai ab ac hi re aP ta po en be de fa a5 sp av an ak ne aW aC ag aT aN aF), (aw, kcI cI 2179 fw)]) [0, 1] rfl, hD.sub (ws' := [(h, oX11 0 aw ai ab ac hi re aP ta po en be de fa a5 sp av an ak ne aW aC ag aT aN aF), (aw, kcI cI 2179 fw)]) [0, 1] (by decide) rfl, hS, lv_sub (l' := [(3, .int 0), (2, .int 0), (0, .ref h), (1, .int a1)]) hl [0, 1, 2, 3] rfl⟩ (fun u H locs ls hI ih438 => ?_)
      clear hP hD hS hl
      obtain ⟨y436, y437⟩ := u
      obtain ⟨hF2, hy436, hP, hD, hS, hl⟩ := hI
      have hP : va_P D vwCl [(h, oX11 0 aw ai ab ac hi re aP ta po en be de fa a5 sp av an ak ne aW aC ag aT aN aF), (aw, kcI cI 2179 fw)] H := hP
      have hD : va_D A [(h, oX11 0 aw ai ab ac hi re aP ta po en be de fa a5 sp av an ak ne aW aC ag aT aN aF), (aw, kcI cI 2179 fw)] := hD
      have hl : lv_has ls 4 [(3, .int y436), (2, .int y437), (0, .ref h), (1, .int a1)] := hl
      refine lv_iload_n hx hb dX11_count_101 rfl (lv_at hl 0 rfl) ?_
      refine lv_aload_n hx hb dX11_count_102 rfl (lv_at hl 2 rfl) ?_
      refine kpurei (wc := [(h, oX11 0 aw ai ab ac hi re aP ta po en be de fa a5 sp av an ak ne aW aC ag aT aN aF), (aw, kcI cI 2179 fw)]) hP hD hS hA [0, 1] rfl (by decide) (fun hPc hDc hFc => va_runV (As := []) (rest := [.int y436]) ⟨hx, hb, hml, hown, hts⟩ (r_men l D cI cJ cB cC h 0 aw ai ab ac hi re aP ta po en be de fa a5 sp av an ak ne aW aC ag aT aN aF fw H.size H_fw_W) (cwV 0 hts gX11_count_X11_men rfl rfl rfl ⟨rfl, hdX11_men⟩ ⟨Nat.le_of_ble_eq_true rfl, Nat.le_of_ble_eq_true rfl⟩) ⟨kBlind, va_recv hK hPc (ci := 10) (q0 := 0) rfl rfl, fun U hU hW => ⟨rfl, by rw [hU], hN.warm hW, hE.pass hS hFc hW hU, by rw [hU]; exact hPc, va_K.moved hW.alike hK, hDc⟩⟩ rfl rfl hl.1 rfl (lv_room (Nat.le_of_ble_eq_true rfl)) dX11_count_103 ⟨Nat.le_of_ble_eq_true rfl, Nat.le_of_ble_eq_true rfl⟩) (fun r439 u H locs hw hP hS => ?_)
      obtain ⟨k440, k441, k442⟩ := hw
      refine lv_icmp_ge (tgt := 132) hx hb dX11_count_106 (by decide) (fun c443 => ?_) (fun c443 => ?_)
      · skip
        refine lv_iload_n hx hb dX11_count_132 rfl (lv_at hl 1 rfl) ?_
        have hP9 := hP.sub (ws' := [(h, oX11 0 aw ai ab ac hi re aP ta po en be de fa a5 sp av an ak ne aW aC ag aT aN aF), (aw, kcI cI 2179 fw)]) [0, 1] rfl
        have hD9 := hD.sub (ws' := [(h, oX11 0 aw ai ab ac hi re aP ta po en be de fa a5 sp av an ak ne aW aC ag aT aN aF), (aw, kcI cI 2179 fw)]) [0, 1] (by decide) rfl
        exact W.iret (v := y437) hx hb hr (fun t ht hW => ⟨⟨y437, (), rfl, (hF2.trans (kIter_out (kC_eq rfl (kLet_eq (k442).symm (kif_t (leI c443) rfl))))), by rw [ht]; exact hP9, va_K.moved hW.alike hK, hD9⟩, hS.F ht⟩) hS.2.2 dX11_count_133
      · skip
        have k444 : Rg y436 0 9 := rg_l1 (nleI c443) hy436 k441 (by decide)
        have k445 : Rg r439 1 10 := rg_l2 (nleI c443) hy436 k441 (by decide)
        refine lv_iload_n hx hb dX11_count_109 rfl (lv_at hl 1 rfl) ?_
        refine lv_aload_n hx hb dX11_count_110 rfl (lv_at hl 2 rfl) ?_
        refine lv_iload_n hx hb dX11_count_111 rfl (lv_at hl 0 rfl) ?_
        refine lv_iconst (v := 4) hx hb dX11_count_112 (by decide) ?_
        refine kpurei (wc := [(h, oX11 0 aw ai ab ac hi re aP ta po en be de fa a5 sp av an ak ne aW aC ag aT aN aF), (aw, kcI cI 2179 fw)]) hP hD hS hA [0, 1] rfl (by decide) (fun hPc hDc hFc => va_runV (As := [.int y436, .int 4]) (rest := [.int y437]) ⟨hx, hb, hml, hown, hts⟩ (r_ofMan4 l D cI cJ cB cC h 0 aw ai ab ac hi re aP ta po en be de fa a5 sp av an ak ne aW aC ag aT aN aF fw y436 H.size k444 H_fw_W) (cwV 2 hts gX11_count_X11_ofMan rfl rfl rfl ⟨rfl, hdX11_ofMan⟩ ⟨Nat.le_of_ble_eq_true rfl, Nat.le_of_ble_eq_true rfl⟩) ⟨kBlind, va_recv hK hPc (ci := 10) (q0 := 0) rfl rfl, fun U hU hW => ⟨rfl, by rw [hU], hN.warm hW, hE.pass hS hFc hW hU, by rw [hU]; exact hPc, va_K.moved hW.alike hK, hDc⟩⟩ rfl rfl hl.1 rfl (lv_room (Nat.le_of_ble_eq_true rfl)) dX11_count_113 ⟨Nat.le_of_ble_eq_true rfl, Nat.le_of_ble_eq_true rfl⟩) (fun r446 u H locs hw hP hS => ?_)
        obtain ⟨k447, k448, k449⟩ := hw
        refine lv_if_ge (tgt := 123) hx hb dX11_count_116 (by decide) (fun c453 => ?_) (fun c453 => ?_)
        · skip
          have k454 : Rg r446 0 11 := rg_e2 (leI c453) (rg_lit (n := 0) (by decide)) k448 (by decide)
          refine lv_iconst (v := 0) hx hb dX11_count_123 (by decide) ?_
          refine lv_iadd hx hb dX11_count_124 ?_
          refine lv_topi (fun x455 ex455 => ?_)
          refine lv_istore_n (lv' := [(2, .int x455), (3, .int y436), (0, .ref h), (1, .int a1)]) hx hb dX11_count_125 rfl hl (by decide) rfl (fun ls hl => ?_)
          obtain ⟨x456, ex456⟩ : ∃ y : Int32, y = y436 + 1 := ⟨_, rfl⟩
          refine lv_iinc (v := x456) (lv' := [(3, .int x456), (2, .int x455), (0, .ref h), (1, .int a1)]) hx hb dX11_count_126 hl (k := 1) rfl (by rw [ex456]; rfl) (by decide) rfl (fun ls hl => ?_)
          have k457 : Rg x456 1 10 := rg_add ex456 k444 (rg_lit (n := 1) (by decide)) (by decide)
          refine lv_goto (tgt := 101) hx hb dX11_count_129 (by decide) ?_
          exact ih438 (x456, x455) _ _ _ (by show (10 - (x456).toInt).toNat < (10 - (y436).toInt).toNat; exact mu_up ex456 k444 k457 (by decide)) ⟨(hF2.trans (kIter_go (kC_eq rfl (kLet_eq (k442).symm (kif_f (xF_le c443) (kLet_eq (k449).symm (kif_t (leI c453) (kLet_eq (ti_add ex455 (rg_any y437) (rg_lit (n := 0) (by decide)) (by decide) rfl rfl) (kLet_eq (ti_add ex456 k444 (rg_lit (n := 1) (by decide)) (by decide) rfl rfl) rfl))))))))), (rg_w k457 (by decide)), hP.sub (ws' := [(h, oX11 0 aw ai ab ac hi re aP ta po en be de fa a5 sp av an ak ne aW aC ag aT aN aF), (aw, kcI cI 2179 fw)]) [0, 1] rfl, hD.sub (ws' := [(h, oX11 0 aw ai ab ac hi re aP ta po en be de fa a5 sp av an ak ne aW aC ag aT aN aF), (aw, kcI cI 2179 fw)]) [0, 1] (by decide) rfl, hS, lv_sub (l' := [(3, .int x456), (2, .int x455), (0, .ref h), (1, .int a1)]) hl [0, 1, 2, 3] rfl⟩
        · skip
          have k458 : Rg r446 (-1) (-1) := rg_l1 (nleI c453) k448 (rg_lit (n := 0) (by decide)) (by decide)
          refine lv_iconst (v := 1) hx hb dX11_count_119 (by decide) ?_
          refine lv_goto (tgt := 124) hx hb dX11_count_120 (by decide) ?_
          refine lv_iadd hx hb dX11_count_124 ?_
          refine lv_topi (fun x459 ex459 => ?_)
          refine lv_istore_n (lv' := [(2, .int x459), (3, .int y436), (0, .ref h), (1, .int a1)]) hx hb dX11_count_125 rfl hl (by decide) rfl (fun ls hl => ?_)
          obtain ⟨x460, ex460⟩ : ∃ y : Int32, y = y436 + 1 := ⟨_, rfl⟩
          refine lv_iinc (v := x460) (lv' := [(3, .int x460), (2, .int x459), (0, .ref h), (1, .int a1)]) hx hb dX11_count_126 hl (k := 1) rfl (by rw [ex460]; rfl) (by decide) rfl (fun ls hl => ?_)
          have k461 : Rg x460 1 10 := rg_add ex460 k444 (rg_lit (n := 1) (by decide)) (by decide)
          refine lv_goto (tgt := 101) hx hb dX11_count_129 (by decide) ?_
          exact ih438 (x460, x459) _ _ _ (by show (10 - (x460).toInt).toNat < (10 - (y436).toInt).toNat; exact mu_up ex460 k444 k461 (by decide)) ⟨(hF2.trans (kIter_go (kC_eq rfl (kLet_eq (k442).symm (kif_f (xF_le c443) (kLet_eq (k449).symm (kif_f (xF_le c453) (kLet_eq (ke_wadd ex459) (kLet_eq (ti_add ex460 k444 (rg_lit (n := 1) (by decide)) (by decide) rfl rfl) rfl))))))))), (rg_w k461 (by decide)), hP.sub (ws' := [(h, oX11 0 aw ai ab ac hi re aP ta po en be de fa a5 sp av an ak ne aW aC ag aT aN aF), (aw, kcI cI 2179 fw)]) [0, 1] rfl, hD.sub (ws' := [(h, oX11 0 aw ai ab ac hi re aP ta po en be de fa a5 sp av an ak ne aW aC ag aT aN aF), (aw, kcI cI 2179 fw)]) [0, 1] (by decide) rfl, hS, lv_sub (l' := [(3, .int x460), (2, .int x459), (0, .ref h), (1, .int a1)]) hl [0, 1, 2, 3] rfl⟩
    · skip
      refine lv_tableIn (tgt := 134) (off := 126) hx hb dX11_count_8 (by rw [c12]; decide) (by rw [c12]; decide) (by rw [c12]; rfl) (by decide) ?_
      have k462 : Rg a1 11 11 := rg_toI c12
      refine lv_iconst (v := 0) hx hb dX11_count_134 (by decide) ?_
      refine lv_istore_n (lv' := [(3, .int 0), (2, .int 0), (0, .ref h), (1, .int a1)]) hx hb dX11_count_135 rfl hl (by decide) rfl (fun ls hl => ?_)
      refine k_loop (hd := 136) (fun (u : Int32 × Int32) => match u with | (y699, y700) => (12 - (y699).toInt).toNat) (fun (u : Int32 × Int32) (H : Heap) (locs : List Loc) (ls : Array Slot) => match u with | (y699, y700) => (F_r_count re.toInt (gT fw) a1.toInt = F_r_count_l3 (gT fw) (y699.toInt, y700.toInt)) ∧ Rg y699 0 12 ∧ va_P D vwCl [(h, oX11 0 aw ai ab ac hi re aP ta po en be de fa a5 sp av an ak ne aW aC ag aT aN aF), (aw, kcI cI 2179 fw)] H ∧ va_D A [(h, oX11 0 aw ai ab ac hi re aP ta po en be de fa a5 sp av an ak ne aW aC ag aT aN aF), (aw, kcI cI 2179 fw)] ∧ va_S A s.heap H locs ∧ lv_has ls 4 [(3, .int y699), (2, .int y700), (0, .ref h), (1, .int a1)]) ((0 : Int32), (0 : Int32)) ⟨(kif_f c1 (kif_f (fun q9 => absurd (c12.symm.trans q9) (by decide)) (kif_f (fun q9 => absurd (c12.symm.trans q9) (by decide)) (kif_f (fun q9 => absurd (c12.symm.trans q9) (by decide)) (kif_f (fun q9 => absurd (c12.symm.trans q9) (by decide)) (kif_f (fun q9 => absurd (c12.symm.trans q9) (by decide)) (kif_f (fun q9 => absurd (c12.symm.trans q9) (by decide)) (kif_f (fun q9 => absurd (c12.symm.trans q9) (by decide)) (kif_f (fun q9 => absurd (c12.symm.trans q9) (by decide)) (kif_t c12 rfl)))))))))), (rg_w (rg_lit (n := 0) (by decide)) (by decide)), hP.sub (ws' := [(h, oX11 0 aw ai ab ac hi re aP ta po en be de fa a5 sp av an ak ne aW aC ag aT aN aF), (aw, kcI cI 2179 fw)]) [0, 1] rfl, hD.sub (ws' := [(h, oX11 0 aw ai ab ac hi re aP ta po en be de fa a5 sp av an ak ne aW aC ag aT aN aF), (aw, kcI cI 2179 fw)]) [0, 1] (by decide) rfl, hS, lv_sub (l' := [(3, .int 0), (2, .int 0), (0, .ref h), (1, .int a1)]) hl [0, 1, 2, 3] rfl⟩ (fun u H locs ls hI ih701 => ?_)
      clear hP hD hS hl
      obtain ⟨y699, y700⟩ := u
      obtain ⟨hF3, hy699, hP, hD, hS, hl⟩ := hI
      have hP : va_P D vwCl [(h, oX11 0 aw ai ab ac hi re aP ta po en be de fa a5 sp av an ak ne aW aC ag aT aN aF), (aw, kcI cI 2179 fw)] H := hP
      have hD : va_D A [(h, oX11 0 aw ai ab ac hi re aP ta po en be de fa a5 sp av an ak ne aW aC ag aT aN aF), (aw, kcI cI 2179 fw)] := hD
      have hl : lv_has ls 4 [(3, .int y699), (2, .int y700), (0, .ref h), (1, .int a1)] := hl
      refine lv_iload_n hx hb dX11_count_136 rfl (lv_at hl 0 rfl) ?_
      refine lv_aload_n hx hb dX11_count_137 rfl (lv_at hl 2 rfl) ?_
      refine kpurei (wc := [(h, oX11 0 aw ai ab ac hi re aP ta po en be de fa a5 sp av an ak ne aW aC ag aT aN aF), (aw, kcI cI 2179 fw)]) hP hD hS hA [0, 1] rfl (by decide) (fun hPc hDc hFc => va_runV (As := []) (rest := [.int y699]) ⟨hx, hb, hml, hown, hts⟩ (r_shirts l D cI cJ cB cC h 0 aw ai ab ac hi re aP ta po en be de fa a5 sp av an ak ne aW aC ag aT aN aF fw H.size H_fw_W) (cwV 0 hts gX11_count_X11_shirts rfl rfl rfl ⟨rfl, hdX11_shirts⟩ ⟨Nat.le_of_ble_eq_true rfl, Nat.le_of_ble_eq_true rfl⟩) ⟨kBlind, va_recv hK hPc (ci := 10) (q0 := 0) rfl rfl, fun U hU hW => ⟨rfl, by rw [hU], hN.warm hW, hE.pass hS hFc hW hU, by rw [hU]; exact hPc, va_K.moved hW.alike hK, hDc⟩⟩ rfl rfl hl.1 rfl (lv_room (Nat.le_of_ble_eq_true rfl)) dX11_count_138 ⟨Nat.le_of_ble_eq_true rfl, Nat.le_of_ble_eq_true rfl⟩) (fun r702 u H locs hw hP hS => ?_)
      obtain ⟨k703, k704, k705⟩ := hw
      refine lv_icmp_ge (tgt := 159) hx hb dX11_count_141 (by decide) (fun c706 => ?_) (fun c706 => ?_)
      · skip
        refine lv_iload_n hx hb dX11_count_159 rfl (lv_at hl 1 rfl) ?_
        have hP9 := hP.sub (ws' := [(h, oX11 0 aw ai ab ac hi re aP ta po en be de fa a5 sp av an ak ne aW aC ag aT aN aF), (aw, kcI cI 2179 fw)]) [0, 1] rfl
        have hD9 := hD.sub (ws' := [(h, oX11 0 aw ai ab ac hi re aP ta po en be de fa a5 sp av an ak ne aW aC ag aT aN aF), (aw, kcI cI 2179 fw)]) [0, 1] (by decide) rfl
        exact W.iret (v := y700) hx hb hr (fun t ht hW => ⟨⟨y700, (), rfl, (hF3.trans (kIter_out (kC_eq rfl (kLet_eq (k705).symm (kif_t (leI c706) rfl))))), by rw [ht]; exact hP9, va_K.moved hW.alike hK, hD9⟩, hS.F ht⟩) hS.2.2 dX11_count_160
      · skip
        have k707 : Rg y699 0 11 := rg_l1 (nleI c706) hy699 k704 (by decide)
        have k708 : Rg r702 1 12 := rg_l2 (nleI c706) hy699 k704 (by decide)
        refine lv_iload_n hx hb dX11_count_144 rfl (lv_at hl 1 rfl) ?_
        refine lv_aload_n hx hb dX11_count_145 rfl (lv_at hl 2 rfl) ?_
        refine lv_iload_n hx hb dX11_count_146 rfl (lv_at hl 0 rfl) ?_
        refine lv_iconst (v := 1) hx hb dX11_count_147 (by decide) ?_
        refine kpurei (wc := [(h, oX11 0 aw ai ab ac hi re aP ta po en be de fa a5 sp av an ak ne aW aC ag aT aN aF), (aw, kcI cI 2179 fw)]) hP hD hS hA [0, 1] rfl (by decide) (fun hPc hDc hFc => va_runV (As := [.int y699, .int 1]) (rest := [.int y700]) ⟨hx, hb, hml, hown, hts⟩ (r_of1 l D cI cJ cB cC h 0 aw ai ab ac hi re aP ta po en be de fa a5 sp av an ak ne aW aC ag aT aN aF fw y699 H.size k707 H_fw_W) (cwV 2 hts gX11_count_X11_of rfl rfl rfl ⟨rfl, hdX11_of⟩ ⟨Nat.le_of_ble_eq_true rfl, Nat.le_of_ble_eq_true rfl⟩) ⟨kBlind, va_recv hK hPc (ci := 10) (q0 := 0) rfl rfl, fun U hU hW => ⟨rfl, by rw [hU], hN.warm hW, hE.pass hS hFc hW hU, by rw [hU]; exact hPc, va_K.moved hW.alike hK, hDc⟩⟩ rfl rfl hl.1 rfl (lv_room (Nat.le_of_ble_eq_true rfl)) dX11_count_148 ⟨Nat.le_of_ble_eq_true rfl, Nat.le_of_ble_eq_true rfl⟩) (fun r709 u H locs hw hP hS => ?_)
        obtain ⟨k710, k711⟩ := hw
        refine lv_iadd hx hb dX11_count_151 ?_
        refine lv_topi (fun x712 ex712 => ?_)
        refine lv_istore_n (lv' := [(2, .int x712), (3, .int y699), (0, .ref h), (1, .int a1)]) hx hb dX11_count_152 rfl hl (by decide) rfl (fun ls hl => ?_)
        obtain ⟨x713, ex713⟩ : ∃ y : Int32, y = y699 + 1 := ⟨_, rfl⟩
        refine lv_iinc (v := x713) (lv' := [(3, .int x713), (2, .int x712), (0, .ref h), (1, .int a1)]) hx hb dX11_count_153 hl (k := 1) rfl (by rw [ex713]; rfl) (by decide) rfl (fun ls hl => ?_)
        have k714 : Rg x713 1 12 := rg_add ex713 k707 (rg_lit (n := 1) (by decide)) (by decide)
        refine lv_goto (tgt := 136) hx hb dX11_count_156 (by decide) ?_
        exact ih701 (x713, x712) _ _ _ (by show (12 - (x713).toInt).toNat < (12 - (y699).toInt).toNat; exact mu_up ex713 k707 k714 (by decide)) ⟨(hF3.trans (kIter_go (kC_eq rfl (kLet_eq (k705).symm (kif_f (xF_le c706) (kLet_eq (k711).symm (kLet_eq (ke_wadd ex712) (kLet_eq (ti_add ex713 k707 (rg_lit (n := 1) (by decide)) (by decide) rfl rfl) rfl)))))))), (rg_w k714 (by decide)), hP.sub (ws' := [(h, oX11 0 aw ai ab ac hi re aP ta po en be de fa a5 sp av an ak ne aW aC ag aT aN aF), (aw, kcI cI 2179 fw)]) [0, 1] rfl, hD.sub (ws' := [(h, oX11 0 aw ai ab ac hi re aP ta po en be de fa a5 sp av an ak ne aW aC ag aT aN aF), (aw, kcI cI 2179 fw)]) [0, 1] (by decide) rfl, hS, lv_sub (l' := [(3, .int x713), (2, .int x712), (0, .ref h), (1, .int a1)]) hl [0, 1, 2, 3] rfl⟩
    · skip
      refine lv_tableIn (tgt := 161) (off := 153) hx hb dX11_count_8 (by rw [c12]; decide) (by rw [c12]; decide) (by rw [c12]; rfl) (by decide) ?_
      have k715 : Rg a1 12 12 := rg_toI c12
      refine lv_iconst (v := 0) hx hb dX11_count_161 (by decide) ?_
      refine lv_istore_n (lv' := [(3, .int 0), (2, .int 0), (0, .ref h), (1, .int a1)]) hx hb dX11_count_162 rfl hl (by decide) rfl (fun ls hl => ?_)
      refine k_loop (hd := 163) (fun (u : Int32 × Int32) => match u with | (y952, y953) => (12 - (y952).toInt).toNat) (fun (u : Int32 × Int32) (H : Heap) (locs : List Loc) (ls : Array Slot) => match u with | (y952, y953) => (F_r_count re.toInt (gT fw) a1.toInt = F_r_count_l4 (gT fw) (y952.toInt, y953.toInt)) ∧ Rg y952 0 12 ∧ va_P D vwCl [(h, oX11 0 aw ai ab ac hi re aP ta po en be de fa a5 sp av an ak ne aW aC ag aT aN aF), (aw, kcI cI 2179 fw)] H ∧ va_D A [(h, oX11 0 aw ai ab ac hi re aP ta po en be de fa a5 sp av an ak ne aW aC ag aT aN aF), (aw, kcI cI 2179 fw)] ∧ va_S A s.heap H locs ∧ lv_has ls 4 [(3, .int y952), (2, .int y953), (0, .ref h), (1, .int a1)]) ((0 : Int32), (0 : Int32)) ⟨(kif_f c1 (kif_f (fun q9 => absurd (c12.symm.trans q9) (by decide)) (kif_f (fun q9 => absurd (c12.symm.trans q9) (by decide)) (kif_f (fun q9 => absurd (c12.symm.trans q9) (by decide)) (kif_f (fun q9 => absurd (c12.symm.trans q9) (by decide)) (kif_f (fun q9 => absurd (c12.symm.trans q9) (by decide)) (kif_f (fun q9 => absurd (c12.symm.trans q9) (by decide)) (kif_f (fun q9 => absurd (c12.symm.trans q9) (by decide)) (kif_f (fun q9 => absurd (c12.symm.trans q9) (by decide)) (kif_f (fun q9 => absurd (c12.symm.trans q9) (by decide)) (kif_t c12 rfl))))))))))), (rg_w (rg_lit (n := 0) (by decide)) (by decide)), hP.sub (ws' := [(h, oX11 0 aw ai ab ac hi re aP ta po en be de fa a5 sp av an ak ne aW aC ag aT aN aF), (aw, kcI cI 2179 fw)]) [0, 1] rfl, hD.sub (ws' := [(h, oX11 0 aw ai ab ac hi re aP ta po en be de fa a5 sp av an ak ne aW aC ag aT aN aF), (aw, kcI cI 2179 fw)]) [0, 1] (by decide) rfl, hS, lv_sub (l' := [(3, .int 0), (2, .int 0), (0, .ref h), (1, .int a1)]) hl [0, 1, 2, 3] rfl⟩ (fun u H locs ls hI ih954 => ?_)
      clear hP hD hS hl
      obtain ⟨y952, y953⟩ := u
      obtain ⟨hF4, hy952, hP, hD, hS, hl⟩ := hI
      have hP : va_P D vwCl [(h, oX11 0 aw ai ab ac hi re aP ta po en be de fa a5 sp av an ak ne aW aC ag aT aN aF), (aw, kcI cI 2179 fw)] H := hP
      have hD : va_D A [(h, oX11 0 aw ai ab ac hi re aP ta po en be de fa a5 sp av an ak ne aW aC ag aT aN aF), (aw, kcI cI 2179 fw)] := hD
      have hl : lv_has ls 4 [(3, .int y952), (2, .int y953), (0, .ref h), (1, .int a1)] := hl
      refine lv_iload_n hx hb dX11_count_163 rfl (lv_at hl 0 rfl) ?_
      refine lv_aload_n hx hb dX11_count_164 rfl (lv_at hl 2 rfl) ?_
      refine kpurei (wc := [(h, oX11 0 aw ai ab ac hi re aP ta po en be de fa a5 sp av an ak ne aW aC ag aT aN aF), (aw, kcI cI 2179 fw)]) hP hD hS hA [0, 1] rfl (by decide) (fun hPc hDc hFc => va_runV (As := []) (rest := [.int y952]) ⟨hx, hb, hml, hown, hts⟩ (r_shirts l D cI cJ cB cC h 0 aw ai ab ac hi re aP ta po en be de fa a5 sp av an ak ne aW aC ag aT aN aF fw H.size H_fw_W) (cwV 0 hts gX11_count_X11_shirts rfl rfl rfl ⟨rfl, hdX11_shirts⟩ ⟨Nat.le_of_ble_eq_true rfl, Nat.le_of_ble_eq_true rfl⟩) ⟨kBlind, va_recv hK hPc (ci := 10) (q0 := 0) rfl rfl, fun U hU hW => ⟨rfl, by rw [hU], hN.warm hW, hE.pass hS hFc hW hU, by rw [hU]; exact hPc, va_K.moved hW.alike hK, hDc⟩⟩ rfl rfl hl.1 rfl (lv_room (Nat.le_of_ble_eq_true rfl)) dX11_count_165 ⟨Nat.le_of_ble_eq_true rfl, Nat.le_of_ble_eq_true rfl⟩) (fun r955 u H locs hw hP hS => ?_)
      obtain ⟨k956, k957, k958⟩ := hw
      refine lv_icmp_ge (tgt := 186) hx hb dX11_count_168 (by decide) (fun c959 => ?_) (fun c959 => ?_)
      · skip
        refine lv_iload_n hx hb dX11_count_186 rfl (lv_at hl 1 rfl) ?_
        have hP9 := hP.sub (ws' := [(h, oX11 0 aw ai ab ac hi re aP ta po en be de fa a5 sp av an ak ne aW aC ag aT aN aF), (aw, kcI cI 2179 fw)]) [0, 1] rfl
        have hD9 := hD.sub (ws' := [(h, oX11 0 aw ai ab ac hi re aP ta po en be de fa a5 sp av an ak ne aW aC ag aT aN aF), (aw, kcI cI 2179 fw)]) [0, 1] (by decide) rfl
        exact W.iret (v := y953) hx hb hr (fun t ht hW => ⟨⟨y953, (), rfl, (hF4.trans (kIter_out (kC_eq rfl (kLet_eq (k958).symm (kif_t (leI c959) rfl))))), by rw [ht]; exact hP9, va_K.moved hW.alike hK, hD9⟩, hS.F ht⟩) hS.2.2 dX11_count_187
      · skip
        have k960 : Rg y952 0 11 := rg_l1 (nleI c959) hy952 k957 (by decide)
        have k961 : Rg r955 1 12 := rg_l2 (nleI c959) hy952 k957 (by decide)
        refine lv_iload_n hx hb dX11_count_171 rfl (lv_at hl 1 rfl) ?_
        refine lv_aload_n hx hb dX11_count_172 rfl (lv_at hl 2 rfl) ?_
        refine lv_iload_n hx hb dX11_count_173 rfl (lv_at hl 0 rfl) ?_
        refine lv_iconst (v := 2) hx hb dX11_count_174 (by decide) ?_
        refine kpurei (wc := [(h, oX11 0 aw ai ab ac hi re aP ta po en be de fa a5 sp av an ak ne aW aC ag aT aN aF), (aw, kcI cI 2179 fw)]) hP hD hS hA [0, 1] rfl (by decide) (fun hPc hDc hFc => va_runV (As := [.int y952, .int 2]) (rest := [.int y953]) ⟨hx, hb, hml, hown, hts⟩ (r_of2 l D cI cJ cB cC h 0 aw ai ab ac hi re aP ta po en be de fa a5 sp av an ak ne aW aC ag aT aN aF fw y952 H.size k960 H_fw_W) (cwV 2 hts gX11_count_X11_of rfl rfl rfl ⟨rfl, hdX11_of⟩ ⟨Nat.le_of_ble_eq_true rfl, Nat.le_of_ble_eq_true rfl⟩) ⟨kBlind, va_recv hK hPc (ci := 10) (q0 := 0) rfl rfl, fun U hU hW => ⟨rfl, by rw [hU], hN.warm hW, hE.pass hS hFc hW hU, by rw [hU]; exact hPc, va_K.moved hW.alike hK, hDc⟩⟩ rfl rfl hl.1 rfl (lv_room (Nat.le_of_ble_eq_true rfl)) dX11_count_175 ⟨Nat.le_of_ble_eq_true rfl, Nat.le_of_ble_eq_true rfl⟩) (fun r962 u H locs hw hP hS => ?_)
        obtain ⟨k963, k964⟩ := hw
        refine lv_iadd hx hb dX11_count_178 ?_
        refine lv_topi (fun x965 ex965 => ?_)
        refine lv_istore_n (lv' := [(2, .int x965), (3, .int y952), (0, .ref h), (1, .int a1)]) hx hb dX11_count_179 rfl hl (by decide) rfl (fun ls hl => ?_)
        obtain ⟨x966, ex966⟩ : ∃ y : Int32, y = y952 + 1 := ⟨_, rfl⟩
        refine lv_iinc (v := x966) (lv' := [(3, .int x966), (2, .int x965), (0, .ref h), (1, .int a1)]) hx hb dX11_count_180 hl (k := 1) rfl (by rw [ex966]; rfl) (by decide) rfl (fun ls hl => ?_)
        have k967 : Rg x966 1 12 := rg_add ex966 k960 (rg_lit (n := 1) (by decide)) (by decide)
        refine lv_goto (tgt := 163) hx hb dX11_count_183 (by decide) ?_
        exact ih954 (x966, x965) _ _ _ (by show (12 - (x966).toInt).toNat < (12 - (y952).toInt).toNat; exact mu_up ex966 k960 k967 (by decide)) ⟨(hF4.trans (kIter_go (kC_eq rfl (kLet_eq (k958).symm (kif_f (xF_le c959) (kLet_eq (k964).symm (kLet_eq (ke_wadd ex965) (kLet_eq (ti_add ex966 k960 (rg_lit (n := 1) (by decide)) (by decide) rfl rfl) rfl)))))))), (rg_w k967 (by decide)), hP.sub (ws' := [(h, oX11 0 aw ai ab ac hi re aP ta po en be de fa a5 sp av an ak ne aW aC ag aT aN aF), (aw, kcI cI 2179 fw)]) [0, 1] rfl, hD.sub (ws' := [(h, oX11 0 aw ai ab ac hi re aP ta po en be de fa a5 sp av an ak ne aW aC ag aT aN aF), (aw, kcI cI 2179 fw)]) [0, 1] (by decide) rfl, hS, lv_sub (l' := [(3, .int x966), (2, .int x965), (0, .ref h), (1, .int a1)]) hl [0, 1, 2, 3] rfl⟩
    · skip
      refine lv_tableIn (tgt := 188) (off := 180) hx hb dX11_count_8 (by rw [c12]; decide) (by rw [c12]; decide) (by rw [c12]; rfl) (by decide) ?_
      have k968 : Rg a1 13 13 := rg_toI c12
      refine lv_aload_n hx hb dX11_count_188 rfl (lv_at hl 1 rfl) ?_
      refine va_get (D := D) (ci := 10) (v := .int re) (C := RX11) (T := TX11) (N := 26) hx hb hts iG_X11 hown hK hP 0 rfl rfl 6 (by decide) (hts _ w17_23) (fun _ h9 => h9) rfl dX11_count_189 ?_
      have hP9 := hP.sub (ws' := [(h, oX11 0 aw ai ab ac hi re aP ta po en be de fa a5 sp av an ak ne aW aC ag aT aN aF), (aw, kcI cI 2179 fw)]) [0, 1] rfl
      have hD9 := hD.sub (ws' := [(h, oX11 0 aw ai ab ac hi re aP ta po en be de fa a5 sp av an ak ne aW aC ag aT aN aF), (aw, kcI cI 2179 fw)]) [0, 1] (by decide) rfl
      exact W.iret (v := re) hx hb hr (fun t ht hW => ⟨⟨re, (), rfl, (kif_f c1 (kif_f (fun q9 => absurd (c12.symm.trans q9) (by decide)) (kif_f (fun q9 => absurd (c12.symm.trans q9) (by decide)) (kif_f (fun q9 => absurd (c12.symm.trans q9) (by decide)) (kif_f (fun q9 => absurd (c12.symm.trans q9) (by decide)) (kif_f (fun q9 => absurd (c12.symm.trans q9) (by decide)) (kif_f (fun q9 => absurd (c12.symm.trans q9) (by decide)) (kif_f (fun q9 => absurd (c12.symm.trans q9) (by decide)) (kif_f (fun q9 => absurd (c12.symm.trans q9) (by decide)) (kif_f (fun q9 => absurd (c12.symm.trans q9) (by decide)) (kif_f (fun q9 => absurd (c12.symm.trans q9) (by decide)) rfl))))))))))), by rw [ht]; exact hP9, va_K.moved hW.alike hK, hD9⟩, hS.F ht⟩) hS.2.2 dX11_count_192

