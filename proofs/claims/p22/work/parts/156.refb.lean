def kwX11_wash : List Cond := .code yX11_wash cX11_wash 3 none :: kG
theorem hdX11_wash : yX11_wash.cls ≠ "java/lang/invoke/MethodHandle" ∧ yX11_wash.cls ≠ "java/lang/invoke/VarHandle" ∧ (parseMethodDescriptor yX11_wash.desc).map (fun d => d.parameters.length) = some 0 := by decide +kernel
theorem gX11_wash_X11_men : GoodIn kG (wsV RX11 71 RX11 yX11_men kwX11_men) := gK w19_17 (gK w19_18 (gK w19_19 (gK w0_5 (gK w19_20 gGG))))
theorem gX11_wash_X11_of : GoodIn kG (wsV RX11 156 RX11 yX11_of kwX11_of) := gK w21_9 (gK w21_10 (gK w21_11 (gK w0_5 (gK w21_12 gGG))))
theorem gX11_wash_X11_ofMan : GoodIn kG (wsV RX11 153 RX11 yX11_ofMan kwX11_ofMan) := gK w21_5 (gK w21_6 (gK w21_7 (gK w0_5 (gK w21_8 gGG))))
theorem gX11_wash_X11_sets : GoodIn kG (wsV RX11 150 RX11 yX11_sets kwX11_sets) := gK w20_21 (gK w20_22 (gK w20_23 (gK w0_5 (gK w21_0 gGG))))
theorem gX11_wash_X11_setsMan : GoodIn kG (wsV RX11 141 RX11 yX11_setsMan kwX11_setsMan) := gK w20_9 (gK w20_10 (gK w20_11 (gK w0_5 (gK w20_12 gGG))))
theorem gX11_wash_X11_shirts : GoodIn kG (wsV RX11 79 RX11 yX11_shirts kwX11_shirts) := gK w20_17 (gK w20_18 (gK w20_19 (gK w0_5 (gK w20_20 gGG))))
theorem dX11_wash_0 : decode cX11_wash 0 = .ok (.sipush 359, 3) := by decide +kernel
theorem dX11_wash_3 : decode cX11_wash 3 = .ok (.istore_n 1, 1) := by decide +kernel
theorem dX11_wash_4 : decode cX11_wash 4 = .ok (.iload_n 1, 1) := by decide +kernel
theorem dX11_wash_5 : decode cX11_wash 5 = .ok (.bipush 12, 2) := by decide +kernel
theorem dX11_wash_7 : decode cX11_wash 7 = .ok (.if_icmp .lt 32, 3) := by decide +kernel
theorem dX11_wash_10 : decode cX11_wash 10 = .ok (.aload_n 0, 1) := by decide +kernel
theorem dX11_wash_11 : decode cX11_wash 11 = .ok (.getfield 13, 3) := by decide +kernel
theorem dX11_wash_14 : decode cX11_wash 14 = .ok (.sipush 145, 3) := by decide +kernel
theorem dX11_wash_17 : decode cX11_wash 17 = .ok (.iload_n 1, 1) := by decide +kernel
theorem dX11_wash_18 : decode cX11_wash 18 = .ok (.iadd, 1) := by decide +kernel
theorem dX11_wash_19 : decode cX11_wash 19 = .ok (.aload_n 0, 1) := by decide +kernel
theorem dX11_wash_20 : decode cX11_wash 20 = .ok (.getfield 13, 3) := by decide +kernel
theorem dX11_wash_23 : decode cX11_wash 23 = .ok (.sipush 145, 3) := by decide +kernel
theorem dX11_wash_26 : decode cX11_wash 26 = .ok (.iload_n 1, 1) := by decide +kernel
theorem dX11_wash_27 : decode cX11_wash 27 = .ok (.iadd, 1) := by decide +kernel
theorem dX11_wash_28 : decode cX11_wash 28 = .ok (.bipush 12, 2) := by decide +kernel
theorem dX11_wash_30 : decode cX11_wash 30 = .ok (.isub, 1) := by decide +kernel
theorem dX11_wash_31 : decode cX11_wash 31 = .ok (.iaload, 1) := by decide +kernel
theorem dX11_wash_32 : decode cX11_wash 32 = .ok (.iastore, 1) := by decide +kernel
theorem dX11_wash_33 : decode cX11_wash 33 = .ok (.iinc 1 (-1), 3) := by decide +kernel
theorem dX11_wash_36 : decode cX11_wash 36 = .ok (.goto (-32), 3) := by decide +kernel
theorem dX11_wash_39 : decode cX11_wash 39 = .ok (.iconst 0, 1) := by decide +kernel
theorem dX11_wash_40 : decode cX11_wash 40 = .ok (.istore_n 1, 1) := by decide +kernel
theorem dX11_wash_41 : decode cX11_wash 41 = .ok (.iload_n 1, 1) := by decide +kernel
theorem dX11_wash_42 : decode cX11_wash 42 = .ok (.bipush 12, 2) := by decide +kernel
theorem dX11_wash_44 : decode cX11_wash 44 = .ok (.if_icmp .ge 37, 3) := by decide +kernel
theorem dX11_wash_47 : decode cX11_wash 47 = .ok (.aload_n 0, 1) := by decide +kernel
theorem dX11_wash_48 : decode cX11_wash 48 = .ok (.getfield 13, 3) := by decide +kernel
theorem dX11_wash_51 : decode cX11_wash 51 = .ok (.sipush 145, 3) := by decide +kernel
theorem dX11_wash_54 : decode cX11_wash 54 = .ok (.iload_n 1, 1) := by decide +kernel
theorem dX11_wash_55 : decode cX11_wash 55 = .ok (.iadd, 1) := by decide +kernel
theorem dX11_wash_56 : decode cX11_wash 56 = .ok (.iload_n 1, 1) := by decide +kernel
theorem dX11_wash_57 : decode cX11_wash 57 = .ok (.aload_n 0, 1) := by decide +kernel
theorem dX11_wash_58 : decode cX11_wash 58 = .ok (.invokevirtual 79, 3) := by decide +kernel
theorem dX11_wash_61 : decode cX11_wash 61 = .ok (.if_icmp .ge 12, 3) := by decide +kernel
theorem dX11_wash_64 : decode cX11_wash 64 = .ok (.aload_n 0, 1) := by decide +kernel
theorem dX11_wash_65 : decode cX11_wash 65 = .ok (.iload_n 1, 1) := by decide +kernel
theorem dX11_wash_66 : decode cX11_wash 66 = .ok (.iconst 5, 1) := by decide +kernel
theorem dX11_wash_67 : decode cX11_wash 67 = .ok (.invokevirtual 156, 3) := by decide +kernel
theorem dX11_wash_70 : decode cX11_wash 70 = .ok (.goto 4, 3) := by decide +kernel
theorem dX11_wash_73 : decode cX11_wash 73 = .ok (.iconst (-1), 1) := by decide +kernel
theorem dX11_wash_74 : decode cX11_wash 74 = .ok (.iastore, 1) := by decide +kernel
theorem dX11_wash_75 : decode cX11_wash 75 = .ok (.iinc 1 1, 3) := by decide +kernel
theorem dX11_wash_78 : decode cX11_wash 78 = .ok (.goto (-37), 3) := by decide +kernel
theorem dX11_wash_81 : decode cX11_wash 81 = .ok (.iconst 0, 1) := by decide +kernel
theorem dX11_wash_82 : decode cX11_wash 82 = .ok (.istore_n 1, 1) := by decide +kernel
theorem dX11_wash_83 : decode cX11_wash 83 = .ok (.iload_n 1, 1) := by decide +kernel
theorem dX11_wash_84 : decode cX11_wash 84 = .ok (.aload_n 0, 1) := by decide +kernel
theorem dX11_wash_85 : decode cX11_wash 85 = .ok (.invokevirtual 79, 3) := by decide +kernel
theorem dX11_wash_88 : decode cX11_wash 88 = .ok (.if_icmp .ge 100, 3) := by decide +kernel
theorem dX11_wash_91 : decode cX11_wash 91 = .ok (.aload_n 0, 1) := by decide +kernel
theorem dX11_wash_92 : decode cX11_wash 92 = .ok (.iload_n 1, 1) := by decide +kernel
theorem dX11_wash_93 : decode cX11_wash 93 = .ok (.iconst 5, 1) := by decide +kernel
theorem dX11_wash_94 : decode cX11_wash 94 = .ok (.invokevirtual 156, 3) := by decide +kernel
theorem dX11_wash_97 : decode cX11_wash 97 = .ok (.istore_n 2, 1) := by decide +kernel
theorem dX11_wash_98 : decode cX11_wash 98 = .ok (.aload_n 0, 1) := by decide +kernel
theorem dX11_wash_99 : decode cX11_wash 99 = .ok (.iload_n 1, 1) := by decide +kernel
theorem dX11_wash_100 : decode cX11_wash 100 = .ok (.bipush 6, 2) := by decide +kernel
theorem dX11_wash_102 : decode cX11_wash 102 = .ok (.iload_n 2, 1) := by decide +kernel
theorem dX11_wash_103 : decode cX11_wash 103 = .ok (.invokevirtual 150, 3) := by decide +kernel
theorem dX11_wash_106 : decode cX11_wash 106 = .ok (.aload_n 0, 1) := by decide +kernel
theorem dX11_wash_107 : decode cX11_wash 107 = .ok (.iload_n 1, 1) := by decide +kernel
theorem dX11_wash_108 : decode cX11_wash 108 = .ok (.iconst 5, 1) := by decide +kernel
theorem dX11_wash_109 : decode cX11_wash 109 = .ok (.iconst (-1), 1) := by decide +kernel
theorem dX11_wash_110 : decode cX11_wash 110 = .ok (.invokevirtual 150, 3) := by decide +kernel
theorem dX11_wash_113 : decode cX11_wash 113 = .ok (.iload_n 2, 1) := by decide +kernel
theorem dX11_wash_114 : decode cX11_wash 114 = .ok (.ifCond .ge 6, 3) := by decide +kernel
theorem dX11_wash_117 : decode cX11_wash 117 = .ok (.goto 65, 3) := by decide +kernel
theorem dX11_wash_120 : decode cX11_wash 120 = .ok (.aload_n 0, 1) := by decide +kernel
theorem dX11_wash_121 : decode cX11_wash 121 = .ok (.iload_n 1, 1) := by decide +kernel
theorem dX11_wash_122 : decode cX11_wash 122 = .ok (.iconst 1, 1) := by decide +kernel
theorem dX11_wash_123 : decode cX11_wash 123 = .ok (.sipush 999, 3) := by decide +kernel
theorem dX11_wash_126 : decode cX11_wash 126 = .ok (.aload_n 0, 1) := by decide +kernel
theorem dX11_wash_127 : decode cX11_wash 127 = .ok (.iload_n 1, 1) := by decide +kernel
theorem dX11_wash_128 : decode cX11_wash 128 = .ok (.iconst 1, 1) := by decide +kernel
theorem dX11_wash_129 : decode cX11_wash 129 = .ok (.invokevirtual 156, 3) := by decide +kernel
theorem dX11_wash_132 : decode cX11_wash 132 = .ok (.aload_n 0, 1) := by decide +kernel
theorem dX11_wash_133 : decode cX11_wash 133 = .ok (.iload_n 2, 1) := by decide +kernel
theorem dX11_wash_134 : decode cX11_wash 134 = .ok (.iconst 2, 1) := by decide +kernel
theorem dX11_wash_135 : decode cX11_wash 135 = .ok (.invokevirtual 153, 3) := by decide +kernel
theorem dX11_wash_138 : decode cX11_wash 138 = .ok (.iadd, 1) := by decide +kernel
theorem dX11_wash_139 : decode cX11_wash 139 = .ok (.invokestatic 292, 3) := by decide +kernel
theorem dX11_wash_142 : decode cX11_wash 142 = .ok (.invokevirtual 150, 3) := by decide +kernel
theorem dX11_wash_145 : decode cX11_wash 145 = .ok (.aload_n 0, 1) := by decide +kernel
theorem dX11_wash_146 : decode cX11_wash 146 = .ok (.iload_n 1, 1) := by decide +kernel
theorem dX11_wash_147 : decode cX11_wash 147 = .ok (.iconst 3, 1) := by decide +kernel
theorem dX11_wash_148 : decode cX11_wash 148 = .ok (.iconst 0, 1) := by decide +kernel
theorem dX11_wash_149 : decode cX11_wash 149 = .ok (.aload_n 0, 1) := by decide +kernel
theorem dX11_wash_150 : decode cX11_wash 150 = .ok (.iload_n 1, 1) := by decide +kernel
theorem dX11_wash_151 : decode cX11_wash 151 = .ok (.iconst 3, 1) := by decide +kernel
theorem dX11_wash_152 : decode cX11_wash 152 = .ok (.invokevirtual 156, 3) := by decide +kernel
theorem dX11_wash_155 : decode cX11_wash 155 = .ok (.iconst 1, 1) := by decide +kernel
theorem dX11_wash_156 : decode cX11_wash 156 = .ok (.isub, 1) := by decide +kernel
theorem dX11_wash_157 : decode cX11_wash 157 = .ok (.invokestatic 295, 3) := by decide +kernel
theorem dX11_wash_160 : decode cX11_wash 160 = .ok (.invokevirtual 150, 3) := by decide +kernel
theorem dX11_wash_163 : decode cX11_wash 163 = .ok (.aload_n 0, 1) := by decide +kernel
theorem dX11_wash_164 : decode cX11_wash 164 = .ok (.iload_n 1, 1) := by decide +kernel
theorem dX11_wash_165 : decode cX11_wash 165 = .ok (.iconst 2, 1) := by decide +kernel
theorem dX11_wash_166 : decode cX11_wash 166 = .ok (.bipush 99, 2) := by decide +kernel
theorem dX11_wash_168 : decode cX11_wash 168 = .ok (.aload_n 0, 1) := by decide +kernel
theorem dX11_wash_169 : decode cX11_wash 169 = .ok (.iload_n 1, 1) := by decide +kernel
theorem dX11_wash_170 : decode cX11_wash 170 = .ok (.iconst 2, 1) := by decide +kernel
theorem dX11_wash_171 : decode cX11_wash 171 = .ok (.invokevirtual 156, 3) := by decide +kernel
theorem dX11_wash_174 : decode cX11_wash 174 = .ok (.iconst 3, 1) := by decide +kernel
theorem dX11_wash_175 : decode cX11_wash 175 = .ok (.iadd, 1) := by decide +kernel
theorem dX11_wash_176 : decode cX11_wash 176 = .ok (.invokestatic 292, 3) := by decide +kernel
theorem dX11_wash_179 : decode cX11_wash 179 = .ok (.invokevirtual 150, 3) := by decide +kernel
theorem dX11_wash_182 : decode cX11_wash 182 = .ok (.iinc 1 1, 3) := by decide +kernel
theorem dX11_wash_185 : decode cX11_wash 185 = .ok (.goto (-102), 3) := by decide +kernel
theorem dX11_wash_188 : decode cX11_wash 188 = .ok (.iconst 0, 1) := by decide +kernel
theorem dX11_wash_189 : decode cX11_wash 189 = .ok (.istore_n 1, 1) := by decide +kernel
theorem dX11_wash_190 : decode cX11_wash 190 = .ok (.iload_n 1, 1) := by decide +kernel
theorem dX11_wash_191 : decode cX11_wash 191 = .ok (.aload_n 0, 1) := by decide +kernel
theorem dX11_wash_192 : decode cX11_wash 192 = .ok (.invokevirtual 71, 3) := by decide +kernel
theorem dX11_wash_195 : decode cX11_wash 195 = .ok (.if_icmp .ge 16, 3) := by decide +kernel
theorem dX11_wash_198 : decode cX11_wash 198 = .ok (.aload_n 0, 1) := by decide +kernel
theorem dX11_wash_199 : decode cX11_wash 199 = .ok (.iload_n 1, 1) := by decide +kernel
theorem dX11_wash_200 : decode cX11_wash 200 = .ok (.iconst 4, 1) := by decide +kernel
theorem dX11_wash_201 : decode cX11_wash 201 = .ok (.iconst (-1), 1) := by decide +kernel
theorem dX11_wash_202 : decode cX11_wash 202 = .ok (.invokevirtual 141, 3) := by decide +kernel
theorem dX11_wash_205 : decode cX11_wash 205 = .ok (.iinc 1 1, 3) := by decide +kernel
theorem dX11_wash_208 : decode cX11_wash 208 = .ok (.goto (-18), 3) := by decide +kernel
theorem dX11_wash_211 : decode cX11_wash 211 = .ok (.aload_n 0, 1) := by decide +kernel
theorem dX11_wash_212 : decode cX11_wash 212 = .ok (.getfield 13, 3) := by decide +kernel
theorem dX11_wash_215 : decode cX11_wash 215 = .ok (.bipush 10, 2) := by decide +kernel
theorem dX11_wash_217 : decode cX11_wash 217 = .ok (.bipush 30, 2) := by decide +kernel
theorem dX11_wash_219 : decode cX11_wash 219 = .ok (.aload_n 0, 1) := by decide +kernel
theorem dX11_wash_220 : decode cX11_wash 220 = .ok (.getfield 13, 3) := by decide +kernel
theorem dX11_wash_223 : decode cX11_wash 223 = .ok (.bipush 10, 2) := by decide +kernel
theorem dX11_wash_225 : decode cX11_wash 225 = .ok (.iaload, 1) := by decide +kernel
theorem dX11_wash_226 : decode cX11_wash 226 = .ok (.iconst 1, 1) := by decide +kernel
theorem dX11_wash_227 : decode cX11_wash 227 = .ok (.iadd, 1) := by decide +kernel
theorem dX11_wash_228 : decode cX11_wash 228 = .ok (.invokestatic 292, 3) := by decide +kernel
theorem dX11_wash_231 : decode cX11_wash 231 = .ok (.iastore, 1) := by decide +kernel
theorem dX11_wash_232 : decode cX11_wash 232 = .ok (.aload_n 0, 1) := by decide +kernel
theorem dX11_wash_233 : decode cX11_wash 233 = .ok (.getfield 13, 3) := by decide +kernel
theorem dX11_wash_236 : decode cX11_wash 236 = .ok (.iconst 5, 1) := by decide +kernel
theorem dX11_wash_237 : decode cX11_wash 237 = .ok (.dup2, 1) := by decide +kernel
theorem dX11_wash_238 : decode cX11_wash 238 = .ok (.iaload, 1) := by decide +kernel
theorem dX11_wash_239 : decode cX11_wash 239 = .ok (.iconst 1, 1) := by decide +kernel
theorem dX11_wash_240 : decode cX11_wash 240 = .ok (.iadd, 1) := by decide +kernel
theorem dX11_wash_241 : decode cX11_wash 241 = .ok (.iastore, 1) := by decide +kernel
theorem dX11_wash_242 : decode cX11_wash 242 = .ok (.return_, 1) := by decide +kernel
set_option maxHeartbeats 4000000 in
set_option maxRecDepth 100000 in
/-- reference: wash -/
theorem r_wash (l : Launch) (D : va_G) (cI cJ cB cC : ClassId) (h : Nat) (th : Int32) (aw : Nat) (ai : Nat) (ab : Nat) (ac : Nat) (hi : Int32) (re : Int32) (aP : Nat) (ta : Int32) (po : Int32) (en : Int32) (be : Int32) (de : Int32) (fa : Int32) (a5 : Nat) (sp : Int32) (av : Nat) (an : Nat) (ak : Nat) (ne : Int32) (aW : Nat) (aC : Nat) (ag : Nat) (aT : Nat) (aN : Nat) (aF : Nat) (fw : Nat → Int32) (sz : Nat) (H_fw_W : wW fw) (H_fw_B : wB fw) (H_fw_L : wL fw) : Met l yX11_wash kwX11_wash ({ frames := 1, cells := 0, slots := 0, locals := 23 } : Room) (kPre D (kT cI cJ cB cC) sz [(h, oX11 th aw ai ab ac hi re aP ta po en be de fa a5 sp av an ak ne aW aC ag aT aN aF), (aw, kcI cI 2179 fw)] [.ref h]) (va_Qv (fun (f0_ : (Nat → Int32)) => wB f0_ ∧ wL f0_ ∧ wW f0_ ∧ F_r_wash (gT fw) = ((gT f0_))) (fun (f0_ : (Nat → Int32)) (t : State) => kB D (kT cI cJ cB cC) (va_A [(h, oX11 th aw ai ab ac hi re aP ta po en be de fa a5 sp av an ak ne aW aC ag aT aN aF), (aw, kcI cI 2179 fw)] sz) [(h, oX11 th aw ai ab ac hi re aP ta po en be de fa a5 sp av an ak ne aW aC ag aT aN aF), (aw, kcI cI 2179 f0_)] t) (va_A [(h, oX11 th aw ai ab ac hi re aP ta po en be de fa a5 sp av an ak ne aW aC ag aT aN aF), (aw, kcI cI 2179 fw)] sz)) 0 0 (va_A [(h, oX11 th aw ai ab ac hi re aP ta po en be de fa a5 sp av an ak ne aW aC ag aT aN aF), (aw, kcI cI 2179 fw)] sz) := by
  refine Met.ofW (cc := cX11_wash) (maxL := 3) (ret := none) (by decide) rfl ?_
  intro p e s m args below meth c s₁ B hml hv
  obtain ⟨rfl, hsz, hN, hE, hP, hK, hD0⟩ := hv
  have hx := B.exec
  have hb := B.bytes
  have hr := B.returns
  have hts := fun (w : Cond) (h : w ∈ kG) => atoms_spec (ws := kwX11_wash) B.pre w (List.mem_cons_of_mem _ h)
  have hown : s.vm.findClass RX11 = some m.cls := findClass_of_methodNamed B.named
  subst hsz
  have hD := hD0.self (sz := s.heap.size)
  generalize hAe : va_A [(h, oX11 th aw ai ab ac hi re aP ta po en be de fa a5 sp av an ak ne aW aC ag aT aN aF), (aw, kcI cI 2179 fw)] s.heap.size = A at hD hE ⊢
  have hA : ∀ q : Nat, s.heap.size ≤ q → A q := fun q h => by rw [← hAe]; exact Or.inr h
  have hl := lv_entry ([.ref h]) (n := 3) (Nat.le_of_ble_eq_true rfl)
  rw [lg_entry_eq]
  generalize (lg_sl ([.ref h]) ++ List.replicate (3 - (lg_sl ([.ref h])).length) Slot.unset).toArray = ls at hl ⊢
  have hl : lv_has ls 3 [(0, .ref h)] := hl
  obtain ⟨H, hH0⟩ : ∃ H, H = s.heap := ⟨_, rfl⟩
  have hS : va_S A s.heap H [] := by rw [hH0]; exact va_S.rf
  have hP : va_P D vwCl [(h, oX11 th aw ai ab ac hi re aP ta po en be de fa a5 sp av an ak ne aW aC ag aT aN aF), (aw, kcI cI 2179 fw)] H := by rw [hH0]; exact hP
  refine kHeap hH0 ?_
  clear hH0
  refine lv_sipush (v := 359) hx hb dX11_wash_0 (by decide) ?_
  refine lv_istore_n (lv' := [(1, .int 359), (0, .ref h)]) hx hb dX11_wash_3 rfl hl (by decide) rfl (fun ls hl => ?_)
  refine k_loop (hd := 4) (fun (u : Int32 × (Nat → Int32)) => match u with | (y273, g274) => ((y273).toInt - 11).toNat) (fun (u : Int32 × (Nat → Int32)) (H : Heap) (locs : List Loc) (ls : Array Slot) => match u with | (y273, g274) => (F_r_wash (gT fw) = F_r_wash_l1 (y273.toInt, (gT g274))) ∧ Rg y273 11 359 ∧ wB g274 ∧ wL g274 ∧ wW g274 ∧ va_P D vwCl [(h, oX11 th aw ai ab ac hi re aP ta po en be de fa a5 sp av an ak ne aW aC ag aT aN aF), (aw, kcI cI 2179 g274)] H ∧ va_D A [(h, oX11 th aw ai ab ac hi re aP ta po en be de fa a5 sp av an ak ne aW aC ag aT aN aF), (aw, kcI cI 2179 g274)] ∧ va_S A s.heap H locs ∧ lv_has ls 3 [(1, .int y273), (0, .ref h)]) ((359 : Int32), fw) ⟨rfl, (rg_w (rg_lit (n := 359) (by decide)) (by decide)), H_fw_B, H_fw_L, H_fw_W, hP.sub (ws' := [(h, oX11 th aw ai ab ac hi re aP ta po en be de fa a5 sp av an ak ne aW aC ag aT aN aF), (aw, kcI cI 2179 fw)]) [0, 1] rfl, hD.sub (ws' := [(h, oX11 th aw ai ab ac hi re aP ta po en be de fa a5 sp av an ak ne aW aC ag aT aN aF), (aw, kcI cI 2179 fw)]) [0, 1] (by decide) rfl, hS, lv_sub (l' := [(1, .int 359), (0, .ref h)]) hl [0, 1] rfl⟩ (fun u H locs ls hI ih275 => ?_)
  clear hP hD hS hl
  obtain ⟨y273, g274⟩ := u
  obtain ⟨hF1, hy273, hg274_0, hg274_1, hg274_2, hP, hD, hS, hl⟩ := hI
  have hP : va_P D vwCl [(h, oX11 th aw ai ab ac hi re aP ta po en be de fa a5 sp av an ak ne aW aC ag aT aN aF), (aw, kcI cI 2179 g274)] H := hP
  have hD : va_D A [(h, oX11 th aw ai ab ac hi re aP ta po en be de fa a5 sp av an ak ne aW aC ag aT aN aF), (aw, kcI cI 2179 g274)] := hD
  have hl : lv_has ls 3 [(1, .int y273), (0, .ref h)] := hl
  refine lv_iload_n hx hb dX11_wash_4 rfl (lv_at hl 0 rfl) ?_
  refine lv_bipush (v := 12) hx hb dX11_wash_5 (by decide) ?_
  refine lv_icmp_lt (tgt := 39) hx hb dX11_wash_7 (by decide) (fun c276 => ?_) (fun c276 => ?_)
  · skip
    have k277 : Rg y273 11 11 := rg_l1 (ltI c276) hy273 (rg_lit (n := 12) (by decide)) (by decide)
    refine lv_iconst (v := 0) hx hb dX11_wash_39 (by decide) ?_
    refine lv_istore_n (lv' := [(1, .int 0), (0, .ref h)]) hx hb dX11_wash_40 rfl hl (by decide) rfl (fun ls hl => ?_)
    refine k_loop (hd := 41) (fun (u : Int32 × (Nat → Int32)) => match u with | (y681, g682) => (12 - (y681).toInt).toNat) (fun (u : Int32 × (Nat → Int32)) (H : Heap) (locs : List Loc) (ls : Array Slot) => match u with | (y681, g682) => (F_r_wash_l1_s (y273.toInt, (gT g274)) = F_r_wash_l2 (y681.toInt, (gT g682))) ∧ Rg y681 0 12 ∧ wB g682 ∧ wL g682 ∧ wW g682 ∧ va_P D vwCl [(h, oX11 th aw ai ab ac hi re aP ta po en be de fa a5 sp av an ak ne aW aC ag aT aN aF), (aw, kcI cI 2179 g682)] H ∧ va_D A [(h, oX11 th aw ai ab ac hi re aP ta po en be de fa a5 sp av an ak ne aW aC ag aT aN aF), (aw, kcI cI 2179 g682)] ∧ va_S A s.heap H locs ∧ lv_has ls 3 [(1, .int y681), (0, .ref h)]) ((0 : Int32), g274) ⟨(kC_eq rfl (kif_t (ltI c276) rfl)), (rg_w (rg_lit (n := 0) (by decide)) (by decide)), hg274_0, hg274_1, hg274_2, hP.sub (ws' := [(h, oX11 th aw ai ab ac hi re aP ta po en be de fa a5 sp av an ak ne aW aC ag aT aN aF), (aw, kcI cI 2179 g274)]) [0, 1] rfl, hD.sub (ws' := [(h, oX11 th aw ai ab ac hi re aP ta po en be de fa a5 sp av an ak ne aW aC ag aT aN aF), (aw, kcI cI 2179 g274)]) [0, 1] (by decide) rfl, hS, lv_sub (l' := [(1, .int 0), (0, .ref h)]) hl [0, 1] rfl⟩ (fun u H locs ls hI ih683 => ?_)
    clear hP hD hS hl
    obtain ⟨y681, g682⟩ := u
    obtain ⟨hF2, hy681, hg682_0, hg682_1, hg682_2, hP, hD, hS, hl⟩ := hI
    have hP : va_P D vwCl [(h, oX11 th aw ai ab ac hi re aP ta po en be de fa a5 sp av an ak ne aW aC ag aT aN aF), (aw, kcI cI 2179 g682)] H := hP
    have hD : va_D A [(h, oX11 th aw ai ab ac hi re aP ta po en be de fa a5 sp av an ak ne aW aC ag aT aN aF), (aw, kcI cI 2179 g682)] := hD
    have hl : lv_has ls 3 [(1, .int y681), (0, .ref h)] := hl
    refine lv_iload_n hx hb dX11_wash_41 rfl (lv_at hl 0 rfl) ?_
    refine lv_bipush (v := 12) hx hb dX11_wash_42 (by decide) ?_
    refine lv_icmp_ge (tgt := 81) hx hb dX11_wash_44 (by decide) (fun c684 => ?_) (fun c684 => ?_)
    · skip
      have k685 : Rg y681 12 12 := rg_e2 (leI c684) (rg_lit (n := 12) (by decide)) hy681 (by decide)
      refine lv_iconst (v := 0) hx hb dX11_wash_81 (by decide) ?_
      refine lv_istore_n (lv' := [(1, .int 0), (0, .ref h)]) hx hb dX11_wash_82 rfl hl (by decide) rfl (fun ls hl => ?_)
      refine k_loop (hd := 83) (fun (u : Int32 × (Nat → Int32)) => match u with | (y1738, g1739) => (12 - (y1738).toInt).toNat) (fun (u : Int32 × (Nat → Int32)) (H : Heap) (locs : List Loc) (ls : Array Slot) => match u with | (y1738, g1739) => (F_r_wash_l2_s (y681.toInt, (gT g682)) = F_r_wash_l3 (y1738.toInt, (gT g1739))) ∧ Rg y1738 0 12 ∧ wB g1739 ∧ wL g1739 ∧ wW g1739 ∧ va_P D vwCl [(h, oX11 th aw ai ab ac hi re aP ta po en be de fa a5 sp av an ak ne aW aC ag aT aN aF), (aw, kcI cI 2179 g1739)] H ∧ va_D A [(h, oX11 th aw ai ab ac hi re aP ta po en be de fa a5 sp av an ak ne aW aC ag aT aN aF), (aw, kcI cI 2179 g1739)] ∧ va_S A s.heap H locs ∧ lv_has ls 3 [(1, .int y1738), (0, .ref h)]) ((0 : Int32), g682) ⟨(kC_eq rfl (kif_t (leI c684) rfl)), (rg_w (rg_lit (n := 0) (by decide)) (by decide)), hg682_0, hg682_1, hg682_2, hP.sub (ws' := [(h, oX11 th aw ai ab ac hi re aP ta po en be de fa a5 sp av an ak ne aW aC ag aT aN aF), (aw, kcI cI 2179 g682)]) [0, 1] rfl, hD.sub (ws' := [(h, oX11 th aw ai ab ac hi re aP ta po en be de fa a5 sp av an ak ne aW aC ag aT aN aF), (aw, kcI cI 2179 g682)]) [0, 1] (by decide) rfl, hS, lv_sub (l' := [(1, .int 0), (0, .ref h)]) hl [0, 1] rfl⟩ (fun u H locs ls hI ih1740 => ?_)
      clear hP hD hS hl
      obtain ⟨y1738, g1739⟩ := u
      obtain ⟨hF3, hy1738, hg1739_0, hg1739_1, hg1739_2, hP, hD, hS, hl⟩ := hI
      have hP : va_P D vwCl [(h, oX11 th aw ai ab ac hi re aP ta po en be de fa a5 sp av an ak ne aW aC ag aT aN aF), (aw, kcI cI 2179 g1739)] H := hP
      have hD : va_D A [(h, oX11 th aw ai ab ac hi re aP ta po en be de fa a5 sp av an ak ne aW aC ag aT aN aF), (aw, kcI cI 2179 g1739)] := hD
      have hl : lv_has ls 3 [(1, .int y1738), (0, .ref h)] := hl
      refine lv_iload_n hx hb dX11_wash_83 rfl (lv_at hl 0 rfl) ?_
      refine lv_aload_n hx hb dX11_wash_84 rfl (lv_at hl 1 rfl) ?_
      refine kpurei (wc := [(h, oX11 th aw ai ab ac hi re aP ta po en be de fa a5 sp av an ak ne aW aC ag aT aN aF), (aw, kcI cI 2179 g1739)]) hP hD hS hA [0, 1] rfl (by decide) (fun hPc hDc hFc => va_runV (As := []) (rest := [.int y1738]) ⟨hx, hb, hml, hown, hts⟩ (r_shirts l D cI cJ cB cC h th aw ai ab ac hi re aP ta po en be de fa a5 sp av an ak ne aW aC ag aT aN aF g1739 H.size hg1739_2) (cwV 0 hts gX11_wash_X11_shirts rfl rfl rfl ⟨rfl, hdX11_shirts⟩ ⟨Nat.le_of_ble_eq_true rfl, Nat.le_of_ble_eq_true rfl⟩) ⟨kBlind, va_recv hK hPc (ci := 10) (q0 := 0) rfl rfl, fun U hU hW => ⟨rfl, by rw [hU], hN.warm hW, hE.pass hS hFc hW hU, by rw [hU]; exact hPc, va_K.moved hW.alike hK, hDc⟩⟩ rfl rfl hl.1 rfl (lv_room (Nat.le_of_ble_eq_true rfl)) dX11_wash_85 ⟨Nat.le_of_ble_eq_true rfl, Nat.le_of_ble_eq_true rfl⟩) (fun r1741 u H locs hw hP hS => ?_)
      obtain ⟨k1742, k1743, k1744⟩ := hw
      refine lv_icmp_ge (tgt := 188) hx hb dX11_wash_88 (by decide) (fun c1745 => ?_) (fun c1745 => ?_)
      · skip
        refine lv_iconst (v := 0) hx hb dX11_wash_188 (by decide) ?_
        refine lv_istore_n (lv' := [(1, .int 0), (0, .ref h)]) hx hb dX11_wash_189 rfl hl (by decide) rfl (fun ls hl => ?_)
        refine k_loop (hd := 190) (fun (u : Int32 × (Nat → Int32)) => match u with | (y1998, g1999) => (10 - (y1998).toInt).toNat) (fun (u : Int32 × (Nat → Int32)) (H : Heap) (locs : List Loc) (ls : Array Slot) => match u with | (y1998, g1999) => (F_r_wash_l3_s (y1738.toInt, (gT g1739)) = F_r_wash_l4 (y1998.toInt, (gT g1999))) ∧ Rg y1998 0 10 ∧ wB g1999 ∧ wL g1999 ∧ wW g1999 ∧ va_P D vwCl [(h, oX11 th aw ai ab ac hi re aP ta po en be de fa a5 sp av an ak ne aW aC ag aT aN aF), (aw, kcI cI 2179 g1999)] H ∧ va_D A [(h, oX11 th aw ai ab ac hi re aP ta po en be de fa a5 sp av an ak ne aW aC ag aT aN aF), (aw, kcI cI 2179 g1999)] ∧ va_S A s.heap H locs ∧ lv_has ls 3 [(1, .int y1998), (0, .ref h)]) ((0 : Int32), g1739) ⟨(kC_eq rfl (kLet_eq (k1744).symm (kif_t (leI c1745) rfl))), (rg_w (rg_lit (n := 0) (by decide)) (by decide)), hg1739_0, hg1739_1, hg1739_2, hP.sub (ws' := [(h, oX11 th aw ai ab ac hi re aP ta po en be de fa a5 sp av an ak ne aW aC ag aT aN aF), (aw, kcI cI 2179 g1739)]) [0, 1] rfl, hD.sub (ws' := [(h, oX11 th aw ai ab ac hi re aP ta po en be de fa a5 sp av an ak ne aW aC ag aT aN aF), (aw, kcI cI 2179 g1739)]) [0, 1] (by decide) rfl, hS, lv_sub (l' := [(1, .int 0), (0, .ref h)]) hl [0, 1] rfl⟩ (fun u H locs ls hI ih2000 => ?_)
        clear hP hD hS hl
        obtain ⟨y1998, g1999⟩ := u
        obtain ⟨hF4, hy1998, hg1999_0, hg1999_1, hg1999_2, hP, hD, hS, hl⟩ := hI
        have hP : va_P D vwCl [(h, oX11 th aw ai ab ac hi re aP ta po en be de fa a5 sp av an ak ne aW aC ag aT aN aF), (aw, kcI cI 2179 g1999)] H := hP
        have hD : va_D A [(h, oX11 th aw ai ab ac hi re aP ta po en be de fa a5 sp av an ak ne aW aC ag aT aN aF), (aw, kcI cI 2179 g1999)] := hD
        have hl : lv_has ls 3 [(1, .int y1998), (0, .ref h)] := hl
        refine lv_iload_n hx hb dX11_wash_190 rfl (lv_at hl 0 rfl) ?_
        refine lv_aload_n hx hb dX11_wash_191 rfl (lv_at hl 1 rfl) ?_
        refine kpurei (wc := [(h, oX11 th aw ai ab ac hi re aP ta po en be de fa a5 sp av an ak ne aW aC ag aT aN aF), (aw, kcI cI 2179 g1999)]) hP hD hS hA [0, 1] rfl (by decide) (fun hPc hDc hFc => va_runV (As := []) (rest := [.int y1998]) ⟨hx, hb, hml, hown, hts⟩ (r_men l D cI cJ cB cC h th aw ai ab ac hi re aP ta po en be de fa a5 sp av an ak ne aW aC ag aT aN aF g1999 H.size hg1999_2) (cwV 0 hts gX11_wash_X11_men rfl rfl rfl ⟨rfl, hdX11_men⟩ ⟨Nat.le_of_ble_eq_true rfl, Nat.le_of_ble_eq_true rfl⟩) ⟨kBlind, va_recv hK hPc (ci := 10) (q0 := 0) rfl rfl, fun U hU hW => ⟨rfl, by rw [hU], hN.warm hW, hE.pass hS hFc hW hU, by rw [hU]; exact hPc, va_K.moved hW.alike hK, hDc⟩⟩ rfl rfl hl.1 rfl (lv_room (Nat.le_of_ble_eq_true rfl)) dX11_wash_192 ⟨Nat.le_of_ble_eq_true rfl, Nat.le_of_ble_eq_true rfl⟩) (fun r2001 u H locs hw hP hS => ?_)
        obtain ⟨k2002, k2003, k2004⟩ := hw
        refine lv_icmp_ge (tgt := 211) hx hb dX11_wash_195 (by decide) (fun c2005 => ?_) (fun c2005 => ?_)
        · skip
          refine lv_aload_n hx hb dX11_wash_211 rfl (lv_at hl 1 rfl) ?_
          refine va_get (D := D) (ci := 10) (v := .ref aw) (C := RX11) (T := TX11) (N := 26) hx hb hts iG_X11 hown hK hP 0 rfl rfl 1 (by decide) (hts _ w5_3) (fun _ h9 => h9) rfl dX11_wash_212 ?_
          refine lv_bipush (v := 10) hx hb dX11_wash_215 (by decide) ?_
          refine lv_bipush (v := 30) hx hb dX11_wash_217 (by decide) ?_
          refine lv_aload_n hx hb dX11_wash_219 rfl (lv_at hl 1 rfl) ?_
          refine va_get (D := D) (ci := 10) (v := .ref aw) (C := RX11) (T := TX11) (N := 26) hx hb hts iG_X11 hown hK hP 0 rfl rfl 1 (by decide) (hts _ w5_3) (fun _ h9 => h9) rfl dX11_wash_220 ?_
          refine lv_bipush (v := 10) hx hb dX11_wash_223 (by decide) ?_
          refine va_iald hx hb hK hP 1 0 rfl rfl (rg_in (rg_lit (n := 10) (by decide)) (by decide)) dX11_wash_225 ?_
          refine lv_topi (fun x2006 ex2006 => ?_)
          have k2007 : Rg x2006 0 30 := wW_10 hg1999_2 ex2006
          refine lv_iconst (v := 1) hx hb dX11_wash_226 (by decide) ?_
          refine lv_iadd hx hb dX11_wash_227 ?_
          refine lv_topi (fun x2008 ex2008 => ?_)
          have k2009 : Rg x2008 1 31 := rg_add ex2008 k2007 (rg_lit (n := 1) (by decide)) (by decide)
          refine va_mmin hx hb (by rw [hml]; exact hl.1.symm) hown (hts _ w34_13) (hts _ w24_21) (hts _ w8_7) (hts _ w24_22) (Nat.le_of_ble_eq_true rfl) (Nat.le_of_ble_eq_true rfl) (Nat.le_of_ble_eq_true rfl) (Nat.le_of_ble_eq_true rfl) dX11_wash_228 ?_
          refine lv_topi (fun x2010 ex2010 => ?_)
          have k2011 : Rg x2010 1 30 := rg_min ex2010 (rg_lit (n := 30) (by decide)) k2009 (by decide)
          refine va_iast hx hb hK hP hD hS 1 0 rfl rfl (rg_in (rg_lit (n := 10) (by decide)) (by decide)) dX11_wash_231 (fun H locs hP hD hS => ?_)
          have hP : va_P D vwCl [(h, oX11 th aw ai ab ac hi re aP ta po en be de fa a5 sp av an ak ne aW aC ag aT aN aF), (aw, kcI cI 2179 (upd g1999 (10 : Int32).toNatClampNeg x2010))] H := hP
          have hD : va_D A [(h, oX11 th aw ai ab ac hi re aP ta po en be de fa a5 sp av an ak ne aW aC ag aT aN aF), (aw, kcI cI 2179 (upd g1999 (10 : Int32).toNatClampNeg x2010))] := hD
          have k2013 : wB (upd g1999 (10 : Int32).toNatClampNeg x2010) := wB_lo hg1999_0 hg1999_2 (rg_lit (n := 10) (by decide)) (by decide)
          have k2014 : wL (upd g1999 (10 : Int32).toNatClampNeg x2010) := wL_out hg1999_1 (rg_lit (n := 10) (by decide)) (by decide)
          have k2015 : wW (upd g1999 (10 : Int32).toNatClampNeg x2010) := wW_w10 hg1999_2 (rg_w k2011 (by decide))
          generalize hg2012 : (upd g1999 (10 : Int32).toNatClampNeg x2010) = g2012 at hP hD k2013 k2014 k2015
          refine lv_aload_n hx hb dX11_wash_232 rfl (lv_at hl 1 rfl) ?_
          refine va_get (D := D) (ci := 10) (v := .ref aw) (C := RX11) (T := TX11) (N := 26) hx hb hts iG_X11 hown hK hP 0 rfl rfl 1 (by decide) (hts _ w5_3) (fun _ h9 => h9) rfl dX11_wash_233 ?_
          refine lv_iconst (v := 5) hx hb dX11_wash_236 (by decide) ?_
          refine lv_dup2_11 hx hb dX11_wash_237 rfl rfl ?_
          refine va_iald hx hb hK hP 1 0 rfl rfl (rg_in (rg_lit (n := 5) (by decide)) (by decide)) dX11_wash_238 ?_
          refine lv_topi (fun x2016 ex2016 => ?_)
          refine lv_iconst (v := 1) hx hb dX11_wash_239 (by decide) ?_
          refine lv_iadd hx hb dX11_wash_240 ?_
          refine lv_topi (fun x2017 ex2017 => ?_)
          refine va_iast hx hb hK hP hD hS 1 0 rfl rfl (rg_in (rg_lit (n := 5) (by decide)) (by decide)) dX11_wash_241 (fun H locs hP hD hS => ?_)
          have hP : va_P D vwCl [(h, oX11 th aw ai ab ac hi re aP ta po en be de fa a5 sp av an ak ne aW aC ag aT aN aF), (aw, kcI cI 2179 (upd g2012 (5 : Int32).toNatClampNeg x2017))] H := hP
          have hD : va_D A [(h, oX11 th aw ai ab ac hi re aP ta po en be de fa a5 sp av an ak ne aW aC ag aT aN aF), (aw, kcI cI 2179 (upd g2012 (5 : Int32).toNatClampNeg x2017))] := hD
          have k2019 : wB (upd g2012 (5 : Int32).toNatClampNeg x2017) := wB_lo k2013 k2015 (rg_lit (n := 5) (by decide)) (by decide)
          have k2020 : wL (upd g2012 (5 : Int32).toNatClampNeg x2017) := wL_out k2014 (rg_lit (n := 5) (by decide)) (by decide)
          have k2021 : wW (upd g2012 (5 : Int32).toNatClampNeg x2017) := wW_lo k2015 (rg_lit (n := 5) (by decide)) (by decide)
          generalize hg2018 : (upd g2012 (5 : Int32).toNatClampNeg x2017) = g2018 at hP hD k2019 k2020 k2021
          have hP9 := hP.sub (ws' := [(h, oX11 th aw ai ab ac hi re aP ta po en be de fa a5 sp av an ak ne aW aC ag aT aN aF), (aw, kcI cI 2179 g2018)]) [0, 1] rfl
          have hD9 := hD.sub (ws' := [(h, oX11 th aw ai ab ac hi re aP ta po en be de fa a5 sp av an ak ne aW aC ag aT aN aF), (aw, kcI cI 2179 g2018)]) [0, 1] (by decide) rfl
          exact W.vret hx hb hr (fun t ht hW => ⟨⟨(g2018), rfl, ⟨k2019, k2020, k2021, (hF1.trans (kIter_out (hF2.trans (kIter_out (hF3.trans (kIter_out (hF4.trans (kIter_out (kC_eq rfl (kLet_eq (k2004).symm (kif_t (leI c2005) (kLet_eq (ke_ld ex2006) (kLet_eq (ti_add ex2008 k2007 (rg_lit (n := 1) (by decide)) (by decide) rfl rfl) (kLet_eq (ke_min ex2010) (kLet_eq (ke_st hg2012) (kLet_eq (ke_ld ex2016) (kLet_eq (ke_wadd ex2017) (kLet_eq (ke_st hg2018) rfl))))))))))))))))))⟩, by rw [ht]; exact hP9, va_K.moved hW.alike hK, hD9⟩, hS.F ht⟩) hS.2.2 dX11_wash_242
        · skip
          have k2022 : Rg y1998 0 9 := rg_l1 (nleI c2005) hy1998 k2003 (by decide)
          have k2023 : Rg r2001 1 10 := rg_l2 (nleI c2005) hy1998 k2003 (by decide)
          refine lv_aload_n hx hb dX11_wash_198 rfl (lv_at hl 1 rfl) ?_
          refine lv_iload_n hx hb dX11_wash_199 rfl (lv_at hl 0 rfl) ?_
          refine lv_iconst (v := 4) hx hb dX11_wash_200 (by decide) ?_
          refine lv_iconst (v := (-1)) hx hb dX11_wash_201 (by decide) ?_
          refine kcallv (wc := [(h, oX11 th aw ai ab ac hi re aP ta po en be de fa a5 sp av an ak ne aW aC ag aT aN aF), (aw, kcI cI 2179 g1999)]) (wr := []) hP hD hS hA [0, 1] [] rfl rfl (by decide) (by decide) (by decide) (fun hPc hDc hFc => va_runV (As := [.int y1998, .int 4, .int (-1)]) (rest := []) ⟨hx, hb, hml, hown, hts⟩ (r_setsMan4 l D cI cJ cB cC h th aw ai ab ac hi re aP ta po en be de fa a5 sp av an ak ne aW aC ag aT aN aF g1999 y1998 (-1) H.size k2022 (rg_w (rg_lit (n := -1) (by decide)) (by decide)) hg1999_2 hg1999_0 hg1999_1) (cwV 3 hts gX11_wash_X11_setsMan rfl rfl rfl ⟨rfl, hdX11_setsMan⟩ ⟨Nat.le_of_ble_eq_true rfl, Nat.le_of_ble_eq_true rfl⟩) ⟨kBlind, va_recv hK hPc (ci := 10) (q0 := 0) rfl rfl, fun U hU hW => ⟨rfl, by rw [hU], hN.warm hW, hE.pass hS hFc hW hU, by rw [hU]; exact hPc, va_K.moved hW.alike hK, hDc⟩⟩ rfl rfl hl.1 rfl (lv_room (Nat.le_of_ble_eq_true rfl)) dX11_wash_202 ⟨Nat.le_of_ble_eq_true rfl, Nat.le_of_ble_eq_true rfl⟩) (fun u H locs hw hP hD hS => ?_)
          obtain ⟨g2024, rfl⟩ : ∃ z, z = u := ⟨_, rfl⟩
          have hP : va_P D vwCl [(h, oX11 th aw ai ab ac hi re aP ta po en be de fa a5 sp av an ak ne aW aC ag aT aN aF), (aw, kcI cI 2179 g2024)] H := hP
          have hD : va_D A [(h, oX11 th aw ai ab ac hi re aP ta po en be de fa a5 sp av an ak ne aW aC ag aT aN aF), (aw, kcI cI 2179 g2024)] := hD
          obtain ⟨k2025, k2026, k2027, k2028⟩ := hw
          obtain ⟨x2029, ex2029⟩ : ∃ y : Int32, y = y1998 + 1 := ⟨_, rfl⟩
          refine lv_iinc (v := x2029) (lv' := [(1, .int x2029), (0, .ref h)]) hx hb dX11_wash_205 hl (k := 0) rfl (by rw [ex2029]; rfl) (by decide) rfl (fun ls hl => ?_)
          have k2030 : Rg x2029 1 10 := rg_add ex2029 k2022 (rg_lit (n := 1) (by decide)) (by decide)
          refine lv_goto (tgt := 190) hx hb dX11_wash_208 (by decide) ?_
          exact ih2000 (x2029, g2024) _ _ _ (by show (10 - (x2029).toInt).toNat < (10 - (y1998).toInt).toNat; exact mu_up ex2029 k2022 k2030 (by decide)) ⟨(hF4.trans (kIter_go (kC_eq rfl (kLet_eq (k2004).symm (kif_f (xF_le c2005) (kLet_eq (k2028).symm (kLet_eq (ti_add ex2029 k2022 (rg_lit (n := 1) (by decide)) (by decide) rfl rfl) rfl))))))), (rg_w k2030 (by decide)), k2025, k2026, k2027, hP.sub (ws' := [(h, oX11 th aw ai ab ac hi re aP ta po en be de fa a5 sp av an ak ne aW aC ag aT aN aF), (aw, kcI cI 2179 g2024)]) [0, 1] rfl, hD.sub (ws' := [(h, oX11 th aw ai ab ac hi re aP ta po en be de fa a5 sp av an ak ne aW aC ag aT aN aF), (aw, kcI cI 2179 g2024)]) [0, 1] (by decide) rfl, hS, lv_sub (l' := [(1, .int x2029), (0, .ref h)]) hl [0, 1] rfl⟩
      · skip
        have k2031 : Rg y1738 0 11 := rg_l1 (nleI c1745) hy1738 k1743 (by decide)
        have k2032 : Rg r1741 1 12 := rg_l2 (nleI c1745) hy1738 k1743 (by decide)
        refine lv_aload_n hx hb dX11_wash_91 rfl (lv_at hl 1 rfl) ?_
        refine lv_iload_n hx hb dX11_wash_92 rfl (lv_at hl 0 rfl) ?_
        refine lv_iconst (v := 5) hx hb dX11_wash_93 (by decide) ?_
        refine kpurei (wc := [(h, oX11 th aw ai ab ac hi re aP ta po en be de fa a5 sp av an ak ne aW aC ag aT aN aF), (aw, kcI cI 2179 g1739)]) hP hD hS hA [0, 1] rfl (by decide) (fun hPc hDc hFc => va_runV (As := [.int y1738, .int 5]) (rest := []) ⟨hx, hb, hml, hown, hts⟩ (r_of5 l D cI cJ cB cC h th aw ai ab ac hi re aP ta po en be de fa a5 sp av an ak ne aW aC ag aT aN aF g1739 y1738 H.size k2031 hg1739_2) (cwV 2 hts gX11_wash_X11_of rfl rfl rfl ⟨rfl, hdX11_of⟩ ⟨Nat.le_of_ble_eq_true rfl, Nat.le_of_ble_eq_true rfl⟩) ⟨kBlind, va_recv hK hPc (ci := 10) (q0 := 0) rfl rfl, fun U hU hW => ⟨rfl, by rw [hU], hN.warm hW, hE.pass hS hFc hW hU, by rw [hU]; exact hPc, va_K.moved hW.alike hK, hDc⟩⟩ rfl rfl hl.1 rfl (lv_room (Nat.le_of_ble_eq_true rfl)) dX11_wash_94 ⟨Nat.le_of_ble_eq_true rfl, Nat.le_of_ble_eq_true rfl⟩) (fun r2033 u H locs hw hP hS => ?_)
        obtain ⟨k2034, k2035, k2036⟩ := hw
        refine lv_istore_n (lv' := [(2, .int r2033), (1, .int y1738), (0, .ref h)]) hx hb dX11_wash_97 rfl hl (by decide) rfl (fun ls hl => ?_)
        refine lv_aload_n hx hb dX11_wash_98 rfl (lv_at hl 2 rfl) ?_
        refine lv_iload_n hx hb dX11_wash_99 rfl (lv_at hl 1 rfl) ?_
        refine lv_bipush (v := 6) hx hb dX11_wash_100 (by decide) ?_
        refine lv_iload_n hx hb dX11_wash_102 rfl (lv_at hl 0 rfl) ?_
        refine kcallv (wc := [(h, oX11 th aw ai ab ac hi re aP ta po en be de fa a5 sp av an ak ne aW aC ag aT aN aF), (aw, kcI cI 2179 g1739)]) (wr := []) hP hD hS hA [0, 1] [] rfl rfl (by decide) (by decide) (by decide) (fun hPc hDc hFc => va_runV (As := [.int y1738, .int 6, .int r2033]) (rest := []) ⟨hx, hb, hml, hown, hts⟩ (r_sets6 l D cI cJ cB cC h th aw ai ab ac hi re aP ta po en be de fa a5 sp av an ak ne aW aC ag aT aN aF g1739 y1738 r2033 H.size k2031 k2035 hg1739_2 hg1739_0 hg1739_1) (cwV 3 hts gX11_wash_X11_sets rfl rfl rfl ⟨rfl, hdX11_sets⟩ ⟨Nat.le_of_ble_eq_true rfl, Nat.le_of_ble_eq_true rfl⟩) ⟨kBlind, va_recv hK hPc (ci := 10) (q0 := 0) rfl rfl, fun U hU hW => ⟨rfl, by rw [hU], hN.warm hW, hE.pass hS hFc hW hU, by rw [hU]; exact hPc, va_K.moved hW.alike hK, hDc⟩⟩ rfl rfl hl.1 rfl (lv_room (Nat.le_of_ble_eq_true rfl)) dX11_wash_103 ⟨Nat.le_of_ble_eq_true rfl, Nat.le_of_ble_eq_true rfl⟩) (fun u H locs hw hP hD hS => ?_)
        obtain ⟨g2037, rfl⟩ : ∃ z, z = u := ⟨_, rfl⟩
        have hP : va_P D vwCl [(h, oX11 th aw ai ab ac hi re aP ta po en be de fa a5 sp av an ak ne aW aC ag aT aN aF), (aw, kcI cI 2179 g2037)] H := hP
        have hD : va_D A [(h, oX11 th aw ai ab ac hi re aP ta po en be de fa a5 sp av an ak ne aW aC ag aT aN aF), (aw, kcI cI 2179 g2037)] := hD
        obtain ⟨k2038, k2039, k2040, k2041⟩ := hw
        refine lv_aload_n hx hb dX11_wash_106 rfl (lv_at hl 2 rfl) ?_
        refine lv_iload_n hx hb dX11_wash_107 rfl (lv_at hl 1 rfl) ?_
        refine lv_iconst (v := 5) hx hb dX11_wash_108 (by decide) ?_
        refine lv_iconst (v := (-1)) hx hb dX11_wash_109 (by decide) ?_
        refine kcallv (wc := [(h, oX11 th aw ai ab ac hi re aP ta po en be de fa a5 sp av an ak ne aW aC ag aT aN aF), (aw, kcI cI 2179 g2037)]) (wr := []) hP hD hS hA [0, 1] [] rfl rfl (by decide) (by decide) (by decide) (fun hPc hDc hFc => va_runV (As := [.int y1738, .int 5, .int (-1)]) (rest := []) ⟨hx, hb, hml, hown, hts⟩ (r_sets5 l D cI cJ cB cC h th aw ai ab ac hi re aP ta po en be de fa a5 sp av an ak ne aW aC ag aT aN aF g2037 y1738 (-1) H.size k2031 (rg_w (rg_lit (n := -1) (by decide)) (by decide)) k2040 k2038 k2039) (cwV 3 hts gX11_wash_X11_sets rfl rfl rfl ⟨rfl, hdX11_sets⟩ ⟨Nat.le_of_ble_eq_true rfl, Nat.le_of_ble_eq_true rfl⟩) ⟨kBlind, va_recv hK hPc (ci := 10) (q0 := 0) rfl rfl, fun U hU hW => ⟨rfl, by rw [hU], hN.warm hW, hE.pass hS hFc hW hU, by rw [hU]; exact hPc, va_K.moved hW.alike hK, hDc⟩⟩ rfl rfl hl.1 rfl (lv_room (Nat.le_of_ble_eq_true rfl)) dX11_wash_110 ⟨Nat.le_of_ble_eq_true rfl, Nat.le_of_ble_eq_true rfl⟩) (fun u H locs hw hP hD hS => ?_)
        obtain ⟨g2042, rfl⟩ : ∃ z, z = u := ⟨_, rfl⟩
        have hP : va_P D vwCl [(h, oX11 th aw ai ab ac hi re aP ta po en be de fa a5 sp av an ak ne aW aC ag aT aN aF), (aw, kcI cI 2179 g2042)] H := hP
        have hD : va_D A [(h, oX11 th aw ai ab ac hi re aP ta po en be de fa a5 sp av an ak ne aW aC ag aT aN aF), (aw, kcI cI 2179 g2042)] := hD
        obtain ⟨k2043, k2044, k2045, k2046⟩ := hw
        refine lv_iload_n hx hb dX11_wash_113 rfl (lv_at hl 0 rfl) ?_
        refine k_join (hd := 182) (cells2 := 0) (slots2 := 0) (fun (g2088 : (Nat → Int32)) => []) (fun (g2088 : (Nat → Int32)) (H : Heap) (locs : List Loc) (ls : Array Slot) => (F_r_wash_l3_s (y1738.toInt, (gT g1739)) = F_r_wash_j5 y1738.toInt (gT g2088)) ∧ wB g2088 ∧ wL g2088 ∧ wW g2088 ∧ va_P D vwCl [(h, oX11 th aw ai ab ac hi re aP ta po en be de fa a5 sp av an ak ne aW aC ag aT aN aF), (aw, kcI cI 2179 g2088)] H ∧ va_D A [(h, oX11 th aw ai ab ac hi re aP ta po en be de fa a5 sp av an ak ne aW aC ag aT aN aF), (aw, kcI cI 2179 g2088)] ∧ va_S A s.heap H locs ∧ lv_has ls 3 [(2, .int r2033), (1, .int y1738), (0, .ref h)]) (fun u H locs ls hI => ?_) (fun hJ182 => ?_)
        · skip
          clear hP hD hS hl
          obtain ⟨g2088, rfl⟩ : ∃ z, z = u := ⟨_, rfl⟩
          obtain ⟨hF5, hg2088_0, hg2088_1, hg2088_2, hP, hD, hS, hl⟩ := hI
          have hP : va_P D vwCl [(h, oX11 th aw ai ab ac hi re aP ta po en be de fa a5 sp av an ak ne aW aC ag aT aN aF), (aw, kcI cI 2179 g2088)] H := hP
          have hD : va_D A [(h, oX11 th aw ai ab ac hi re aP ta po en be de fa a5 sp av an ak ne aW aC ag aT aN aF), (aw, kcI cI 2179 g2088)] := hD
          have hl : lv_has ls 3 [(2, .int r2033), (1, .int y1738), (0, .ref h)] := hl
          obtain ⟨x2089, ex2089⟩ : ∃ y : Int32, y = y1738 + 1 := ⟨_, rfl⟩
          refine lv_iinc (v := x2089) (lv' := [(1, .int x2089), (2, .int r2033), (0, .ref h)]) hx hb dX11_wash_182 hl (k := 1) rfl (by rw [ex2089]; rfl) (by decide) rfl (fun ls hl => ?_)
          have k2090 : Rg x2089 1 12 := rg_add ex2089 k2031 (rg_lit (n := 1) (by decide)) (by decide)
          refine lv_goto (tgt := 83) hx hb dX11_wash_185 (by decide) ?_
          exact ih1740 (x2089, g2088) _ _ _ (by show (12 - (x2089).toInt).toNat < (12 - (y1738).toInt).toNat; exact mu_up ex2089 k2031 k2090 (by decide)) ⟨(hF3.trans (kIter_go (hF5.trans (kLet_eq (ti_add ex2089 k2031 (rg_lit (n := 1) (by decide)) (by decide) rfl rfl) rfl)))), (rg_w k2090 (by decide)), hg2088_0, hg2088_1, hg2088_2, hP.sub (ws' := [(h, oX11 th aw ai ab ac hi re aP ta po en be de fa a5 sp av an ak ne aW aC ag aT aN aF), (aw, kcI cI 2179 g2088)]) [0, 1] rfl, hD.sub (ws' := [(h, oX11 th aw ai ab ac hi re aP ta po en be de fa a5 sp av an ak ne aW aC ag aT aN aF), (aw, kcI cI 2179 g2088)]) [0, 1] (by decide) rfl, hS, lv_sub (l' := [(1, .int x2089), (0, .ref h)]) hl [0, 2] rfl⟩
        refine lv_if_ge (tgt := 120) hx hb dX11_wash_114 (by decide) (fun c2091 => ?_) (fun c2091 => ?_)
        · skip
          have k2092 : Rg r2033 0 9 := rg_e2 (leI c2091) (rg_lit (n := 0) (by decide)) k2035 (by decide)
          refine lv_aload_n hx hb dX11_wash_120 rfl (lv_at hl 2 rfl) ?_
          refine lv_iload_n hx hb dX11_wash_121 rfl (lv_at hl 1 rfl) ?_
          refine lv_iconst (v := 1) hx hb dX11_wash_122 (by decide) ?_
          refine lv_sipush (v := 999) hx hb dX11_wash_123 (by decide) ?_
          refine lv_aload_n hx hb dX11_wash_126 rfl (lv_at hl 2 rfl) ?_
          refine lv_iload_n hx hb dX11_wash_127 rfl (lv_at hl 1 rfl) ?_
          refine lv_iconst (v := 1) hx hb dX11_wash_128 (by decide) ?_
          refine kpurei (wc := [(h, oX11 th aw ai ab ac hi re aP ta po en be de fa a5 sp av an ak ne aW aC ag aT aN aF), (aw, kcI cI 2179 g2042)]) hP hD hS hA [0, 1] rfl (by decide) (fun hPc hDc hFc => va_runV (As := [.int y1738, .int 1]) (rest := [.int 999, .int 1, .int y1738, .ref h]) ⟨hx, hb, hml, hown, hts⟩ (r_of1 l D cI cJ cB cC h th aw ai ab ac hi re aP ta po en be de fa a5 sp av an ak ne aW aC ag aT aN aF g2042 y1738 H.size k2031 k2045) (cwV 2 hts gX11_wash_X11_of rfl rfl rfl ⟨rfl, hdX11_of⟩ ⟨Nat.le_of_ble_eq_true rfl, Nat.le_of_ble_eq_true rfl⟩) ⟨kBlind, va_recv hK hPc (ci := 10) (q0 := 0) rfl rfl, fun U hU hW => ⟨rfl, by rw [hU], hN.warm hW, hE.pass hS hFc hW hU, by rw [hU]; exact hPc, va_K.moved hW.alike hK, hDc⟩⟩ rfl rfl hl.1 rfl (lv_room (Nat.le_of_ble_eq_true rfl)) dX11_wash_129 ⟨Nat.le_of_ble_eq_true rfl, Nat.le_of_ble_eq_true rfl⟩) (fun r2093 u H locs hw hP hS => ?_)
          obtain ⟨k2094, k2095⟩ := hw
          refine lv_aload_n hx hb dX11_wash_132 rfl (lv_at hl 2 rfl) ?_
          refine lv_iload_n hx hb dX11_wash_133 rfl (lv_at hl 0 rfl) ?_
          refine lv_iconst (v := 2) hx hb dX11_wash_134 (by decide) ?_
          refine kpurei (wc := [(h, oX11 th aw ai ab ac hi re aP ta po en be de fa a5 sp av an ak ne aW aC ag aT aN aF), (aw, kcI cI 2179 g2042)]) hP hD hS hA [0, 1] rfl (by decide) (fun hPc hDc hFc => va_runV (As := [.int r2033, .int 2]) (rest := [.int r2093, .int 999, .int 1, .int y1738, .ref h]) ⟨hx, hb, hml, hown, hts⟩ (r_ofMan2 l D cI cJ cB cC h th aw ai ab ac hi re aP ta po en be de fa a5 sp av an ak ne aW aC ag aT aN aF g2042 r2033 H.size k2092 k2045) (cwV 2 hts gX11_wash_X11_ofMan rfl rfl rfl ⟨rfl, hdX11_ofMan⟩ ⟨Nat.le_of_ble_eq_true rfl, Nat.le_of_ble_eq_true rfl⟩) ⟨kBlind, va_recv hK hPc (ci := 10) (q0 := 0) rfl rfl, fun U hU hW => ⟨rfl, by rw [hU], hN.warm hW, hE.pass hS hFc hW hU, by rw [hU]; exact hPc, va_K.moved hW.alike hK, hDc⟩⟩ rfl rfl hl.1 rfl (lv_room (Nat.le_of_ble_eq_true rfl)) dX11_wash_135 ⟨Nat.le_of_ble_eq_true rfl, Nat.le_of_ble_eq_true rfl⟩) (fun r2096 u H locs hw hP hS => ?_)
          obtain ⟨k2097, k2098, k2099⟩ := hw
          refine lv_iadd hx hb dX11_wash_138 ?_
          refine lv_topi (fun x2100 ex2100 => ?_)
          refine va_mmin hx hb (by rw [hml]; exact hl.1.symm) hown (hts _ w34_13) (hts _ w24_21) (hts _ w8_7) (hts _ w24_22) (Nat.le_of_ble_eq_true rfl) (Nat.le_of_ble_eq_true rfl) (Nat.le_of_ble_eq_true rfl) (Nat.le_of_ble_eq_true rfl) dX11_wash_139 ?_
          refine lv_topi (fun x2101 ex2101 => ?_)
          have k2102 : Rg x2101 (-2147483648) 999 := rg_min ex2101 (rg_lit (n := 999) (by decide)) (rg_any x2100) (by decide)
          refine kcallv (wc := [(h, oX11 th aw ai ab ac hi re aP ta po en be de fa a5 sp av an ak ne aW aC ag aT aN aF), (aw, kcI cI 2179 g2042)]) (wr := []) hP hD hS hA [0, 1] [] rfl rfl (by decide) (by decide) (by decide) (fun hPc hDc hFc => va_runV (As := [.int y1738, .int 1, .int x2101]) (rest := []) ⟨hx, hb, hml, hown, hts⟩ (r_sets1 l D cI cJ cB cC h th aw ai ab ac hi re aP ta po en be de fa a5 sp av an ak ne aW aC ag aT aN aF g2042 y1738 x2101 H.size k2031 k2045 k2043 k2044) (cwV 3 hts gX11_wash_X11_sets rfl rfl rfl ⟨rfl, hdX11_sets⟩ ⟨Nat.le_of_ble_eq_true rfl, Nat.le_of_ble_eq_true rfl⟩) ⟨kBlind, va_recv hK hPc (ci := 10) (q0 := 0) rfl rfl, fun U hU hW => ⟨rfl, by rw [hU], hN.warm hW, hE.pass hS hFc hW hU, by rw [hU]; exact hPc, va_K.moved hW.alike hK, hDc⟩⟩ rfl rfl hl.1 rfl (lv_room (Nat.le_of_ble_eq_true rfl)) dX11_wash_142 ⟨Nat.le_of_ble_eq_true rfl, Nat.le_of_ble_eq_true rfl⟩) (fun u H locs hw hP hD hS => ?_)
          obtain ⟨g2103, rfl⟩ : ∃ z, z = u := ⟨_, rfl⟩
          have hP : va_P D vwCl [(h, oX11 th aw ai ab ac hi re aP ta po en be de fa a5 sp av an ak ne aW aC ag aT aN aF), (aw, kcI cI 2179 g2103)] H := hP
          have hD : va_D A [(h, oX11 th aw ai ab ac hi re aP ta po en be de fa a5 sp av an ak ne aW aC ag aT aN aF), (aw, kcI cI 2179 g2103)] := hD
          obtain ⟨k2104, k2105, k2106, k2107⟩ := hw
          refine lv_aload_n hx hb dX11_wash_145 rfl (lv_at hl 2 rfl) ?_
          refine lv_iload_n hx hb dX11_wash_146 rfl (lv_at hl 1 rfl) ?_
          refine lv_iconst (v := 3) hx hb dX11_wash_147 (by decide) ?_
          refine lv_iconst (v := 0) hx hb dX11_wash_148 (by decide) ?_
          refine lv_aload_n hx hb dX11_wash_149 rfl (lv_at hl 2 rfl) ?_
          refine lv_iload_n hx hb dX11_wash_150 rfl (lv_at hl 1 rfl) ?_
          refine lv_iconst (v := 3) hx hb dX11_wash_151 (by decide) ?_
          refine kpurei (wc := [(h, oX11 th aw ai ab ac hi re aP ta po en be de fa a5 sp av an ak ne aW aC ag aT aN aF), (aw, kcI cI 2179 g2103)]) hP hD hS hA [0, 1] rfl (by decide) (fun hPc hDc hFc => va_runV (As := [.int y1738, .int 3]) (rest := [.int 0, .int 3, .int y1738, .ref h]) ⟨hx, hb, hml, hown, hts⟩ (r_of3 l D cI cJ cB cC h th aw ai ab ac hi re aP ta po en be de fa a5 sp av an ak ne aW aC ag aT aN aF g2103 y1738 H.size k2031 k2106) (cwV 2 hts gX11_wash_X11_of rfl rfl rfl ⟨rfl, hdX11_of⟩ ⟨Nat.le_of_ble_eq_true rfl, Nat.le_of_ble_eq_true rfl⟩) ⟨kBlind, va_recv hK hPc (ci := 10) (q0 := 0) rfl rfl, fun U hU hW => ⟨rfl, by rw [hU], hN.warm hW, hE.pass hS hFc hW hU, by rw [hU]; exact hPc, va_K.moved hW.alike hK, hDc⟩⟩ rfl rfl hl.1 rfl (lv_room (Nat.le_of_ble_eq_true rfl)) dX11_wash_152 ⟨Nat.le_of_ble_eq_true rfl, Nat.le_of_ble_eq_true rfl⟩) (fun r2108 u H locs hw hP hS => ?_)
          obtain ⟨k2109, k2110⟩ := hw
          refine lv_iconst (v := 1) hx hb dX11_wash_155 (by decide) ?_
          refine lv_isub hx hb dX11_wash_156 ?_
          refine lv_topi (fun x2111 ex2111 => ?_)
          refine va_mmax hx hb (by rw [hml]; exact hl.1.symm) hown (hts _ w34_14) (hts _ w8_6) (hts _ w8_7) (hts _ w8_8) (Nat.le_of_ble_eq_true rfl) (Nat.le_of_ble_eq_true rfl) (Nat.le_of_ble_eq_true rfl) (Nat.le_of_ble_eq_true rfl) dX11_wash_157 ?_
          refine lv_topi (fun x2112 ex2112 => ?_)
          have k2113 : Rg x2112 0 2147483647 := rg_max ex2112 (rg_lit (n := 0) (by decide)) (rg_any x2111) (by decide)
          refine kcallv (wc := [(h, oX11 th aw ai ab ac hi re aP ta po en be de fa a5 sp av an ak ne aW aC ag aT aN aF), (aw, kcI cI 2179 g2103)]) (wr := []) hP hD hS hA [0, 1] [] rfl rfl (by decide) (by decide) (by decide) (fun hPc hDc hFc => va_runV (As := [.int y1738, .int 3, .int x2112]) (rest := []) ⟨hx, hb, hml, hown, hts⟩ (r_sets3 l D cI cJ cB cC h th aw ai ab ac hi re aP ta po en be de fa a5 sp av an ak ne aW aC ag aT aN aF g2103 y1738 x2112 H.size k2031 k2106 k2104 k2105) (cwV 3 hts gX11_wash_X11_sets rfl rfl rfl ⟨rfl, hdX11_sets⟩ ⟨Nat.le_of_ble_eq_true rfl, Nat.le_of_ble_eq_true rfl⟩) ⟨kBlind, va_recv hK hPc (ci := 10) (q0 := 0) rfl rfl, fun U hU hW => ⟨rfl, by rw [hU], hN.warm hW, hE.pass hS hFc hW hU, by rw [hU]; exact hPc, va_K.moved hW.alike hK, hDc⟩⟩ rfl rfl hl.1 rfl (lv_room (Nat.le_of_ble_eq_true rfl)) dX11_wash_160 ⟨Nat.le_of_ble_eq_true rfl, Nat.le_of_ble_eq_true rfl⟩) (fun u H locs hw hP hD hS => ?_)
          obtain ⟨g2114, rfl⟩ : ∃ z, z = u := ⟨_, rfl⟩
          have hP : va_P D vwCl [(h, oX11 th aw ai ab ac hi re aP ta po en be de fa a5 sp av an ak ne aW aC ag aT aN aF), (aw, kcI cI 2179 g2114)] H := hP
          have hD : va_D A [(h, oX11 th aw ai ab ac hi re aP ta po en be de fa a5 sp av an ak ne aW aC ag aT aN aF), (aw, kcI cI 2179 g2114)] := hD
          obtain ⟨k2115, k2116, k2117, k2118⟩ := hw
          refine lv_aload_n hx hb dX11_wash_163 rfl (lv_at hl 2 rfl) ?_
          refine lv_iload_n hx hb dX11_wash_164 rfl (lv_at hl 1 rfl) ?_
          refine lv_iconst (v := 2) hx hb dX11_wash_165 (by decide) ?_
          refine lv_bipush (v := 99) hx hb dX11_wash_166 (by decide) ?_
          refine lv_aload_n hx hb dX11_wash_168 rfl (lv_at hl 2 rfl) ?_
          refine lv_iload_n hx hb dX11_wash_169 rfl (lv_at hl 1 rfl) ?_
          refine lv_iconst (v := 2) hx hb dX11_wash_170 (by decide) ?_
          refine kpurei (wc := [(h, oX11 th aw ai ab ac hi re aP ta po en be de fa a5 sp av an ak ne aW aC ag aT aN aF), (aw, kcI cI 2179 g2114)]) hP hD hS hA [0, 1] rfl (by decide) (fun hPc hDc hFc => va_runV (As := [.int y1738, .int 2]) (rest := [.int 99, .int 2, .int y1738, .ref h]) ⟨hx, hb, hml, hown, hts⟩ (r_of2 l D cI cJ cB cC h th aw ai ab ac hi re aP ta po en be de fa a5 sp av an ak ne aW aC ag aT aN aF g2114 y1738 H.size k2031 k2117) (cwV 2 hts gX11_wash_X11_of rfl rfl rfl ⟨rfl, hdX11_of⟩ ⟨Nat.le_of_ble_eq_true rfl, Nat.le_of_ble_eq_true rfl⟩) ⟨kBlind, va_recv hK hPc (ci := 10) (q0 := 0) rfl rfl, fun U hU hW => ⟨rfl, by rw [hU], hN.warm hW, hE.pass hS hFc hW hU, by rw [hU]; exact hPc, va_K.moved hW.alike hK, hDc⟩⟩ rfl rfl hl.1 rfl (lv_room (Nat.le_of_ble_eq_true rfl)) dX11_wash_171 ⟨Nat.le_of_ble_eq_true rfl, Nat.le_of_ble_eq_true rfl⟩) (fun r2119 u H locs hw hP hS => ?_)
          obtain ⟨k2120, k2121⟩ := hw
          refine lv_iconst (v := 3) hx hb dX11_wash_174 (by decide) ?_
          refine lv_iadd hx hb dX11_wash_175 ?_
          refine lv_topi (fun x2122 ex2122 => ?_)
          refine va_mmin hx hb (by rw [hml]; exact hl.1.symm) hown (hts _ w34_13) (hts _ w24_21) (hts _ w8_7) (hts _ w24_22) (Nat.le_of_ble_eq_true rfl) (Nat.le_of_ble_eq_true rfl) (Nat.le_of_ble_eq_true rfl) (Nat.le_of_ble_eq_true rfl) dX11_wash_176 ?_
          refine lv_topi (fun x2123 ex2123 => ?_)
          have k2124 : Rg x2123 (-2147483648) 99 := rg_min ex2123 (rg_lit (n := 99) (by decide)) (rg_any x2122) (by decide)
          refine kcallv (wc := [(h, oX11 th aw ai ab ac hi re aP ta po en be de fa a5 sp av an ak ne aW aC ag aT aN aF), (aw, kcI cI 2179 g2114)]) (wr := []) hP hD hS hA [0, 1] [] rfl rfl (by decide) (by decide) (by decide) (fun hPc hDc hFc => va_runV (As := [.int y1738, .int 2, .int x2123]) (rest := []) ⟨hx, hb, hml, hown, hts⟩ (r_sets2 l D cI cJ cB cC h th aw ai ab ac hi re aP ta po en be de fa a5 sp av an ak ne aW aC ag aT aN aF g2114 y1738 x2123 H.size k2031 k2117 k2115 k2116) (cwV 3 hts gX11_wash_X11_sets rfl rfl rfl ⟨rfl, hdX11_sets⟩ ⟨Nat.le_of_ble_eq_true rfl, Nat.le_of_ble_eq_true rfl⟩) ⟨kBlind, va_recv hK hPc (ci := 10) (q0 := 0) rfl rfl, fun U hU hW => ⟨rfl, by rw [hU], hN.warm hW, hE.pass hS hFc hW hU, by rw [hU]; exact hPc, va_K.moved hW.alike hK, hDc⟩⟩ rfl rfl hl.1 rfl (lv_room (Nat.le_of_ble_eq_true rfl)) dX11_wash_179 ⟨Nat.le_of_ble_eq_true rfl, Nat.le_of_ble_eq_true rfl⟩) (fun u H locs hw hP hD hS => ?_)
          obtain ⟨g2125, rfl⟩ : ∃ z, z = u := ⟨_, rfl⟩
          have hP : va_P D vwCl [(h, oX11 th aw ai ab ac hi re aP ta po en be de fa a5 sp av an ak ne aW aC ag aT aN aF), (aw, kcI cI 2179 g2125)] H := hP
          have hD : va_D A [(h, oX11 th aw ai ab ac hi re aP ta po en be de fa a5 sp av an ak ne aW aC ag aT aN aF), (aw, kcI cI 2179 g2125)] := hD
          obtain ⟨k2126, k2127, k2128, k2129⟩ := hw
          exact hJ182 (g2125) _ _ _ ⟨(kC_eq rfl (kLet_eq (k1744).symm (kif_f (xF_le c1745) (kLet_eq (k2036).symm (kLet_eq (k2041).symm (kLet_eq (k2046).symm (kif_t (leI c2091) (kLet_eq (k2095).symm (kLet_eq (k2099).symm (kLet_eq (ke_wadd ex2100) (kLet_eq (ke_min ex2101) (kLet_eq (k2107).symm (kLet_eq (k2110).symm (kLet_eq (ke_wsub ex2111) (kLet_eq (ke_max ex2112) (kLet_eq (k2118).symm (kLet_eq (k2121).symm (kLet_eq (ke_wadd ex2122) (kLet_eq (ke_min ex2123) (kLet_eq (k2129).symm rfl)))))))))))))))))))), k2126, k2127, k2128, hP.sub (ws' := [(h, oX11 th aw ai ab ac hi re aP ta po en be de fa a5 sp av an ak ne aW aC ag aT aN aF), (aw, kcI cI 2179 g2125)]) [0, 1] rfl, hD.sub (ws' := [(h, oX11 th aw ai ab ac hi re aP ta po en be de fa a5 sp av an ak ne aW aC ag aT aN aF), (aw, kcI cI 2179 g2125)]) [0, 1] (by decide) rfl, hS, lv_sub (l' := [(2, .int r2033), (1, .int y1738), (0, .ref h)]) hl [0, 1, 2] rfl⟩
        · skip
          have k2130 : Rg r2033 (-1) (-1) := rg_l1 (nleI c2091) k2035 (rg_lit (n := 0) (by decide)) (by decide)
          refine lv_goto (tgt := 182) hx hb dX11_wash_117 (by decide) ?_
          exact hJ182 (g2042) _ _ _ ⟨(kC_eq rfl (kLet_eq (k1744).symm (kif_f (xF_le c1745) (kLet_eq (k2036).symm (kLet_eq (k2041).symm (kLet_eq (k2046).symm (kif_f (xF_le c2091) rfl))))))), k2043, k2044, k2045, hP.sub (ws' := [(h, oX11 th aw ai ab ac hi re aP ta po en be de fa a5 sp av an ak ne aW aC ag aT aN aF), (aw, kcI cI 2179 g2042)]) [0, 1] rfl, hD.sub (ws' := [(h, oX11 th aw ai ab ac hi re aP ta po en be de fa a5 sp av an ak ne aW aC ag aT aN aF), (aw, kcI cI 2179 g2042)]) [0, 1] (by decide) rfl, hS, lv_sub (l' := [(2, .int r2033), (1, .int y1738), (0, .ref h)]) hl [0, 1, 2] rfl⟩
    · skip
      have k2131 : Rg y681 0 11 := rg_l1 (nleI c684) hy681 (rg_lit (n := 12) (by decide)) (by decide)
      refine lv_aload_n hx hb dX11_wash_47 rfl (lv_at hl 1 rfl) ?_
      refine va_get (D := D) (ci := 10) (v := .ref aw) (C := RX11) (T := TX11) (N := 26) hx hb hts iG_X11 hown hK hP 0 rfl rfl 1 (by decide) (hts _ w5_3) (fun _ h9 => h9) rfl dX11_wash_48 ?_
      refine lv_sipush (v := 145) hx hb dX11_wash_51 (by decide) ?_
      refine lv_iload_n hx hb dX11_wash_54 rfl (lv_at hl 0 rfl) ?_
      refine lv_iadd hx hb dX11_wash_55 ?_
      refine lv_topi (fun x2132 ex2132 => ?_)
      have k2133 : Rg x2132 145 156 := rg_add ex2132 (rg_lit (n := 145) (by decide)) k2131 (by decide)
      refine lv_iload_n hx hb dX11_wash_56 rfl (lv_at hl 0 rfl) ?_
      refine lv_aload_n hx hb dX11_wash_57 rfl (lv_at hl 1 rfl) ?_
      refine kpurei (wc := [(h, oX11 th aw ai ab ac hi re aP ta po en be de fa a5 sp av an ak ne aW aC ag aT aN aF), (aw, kcI cI 2179 g682)]) hP hD hS hA [0, 1] rfl (by decide) (fun hPc hDc hFc => va_runV (As := []) (rest := [.int y681, .int x2132, .ref aw]) ⟨hx, hb, hml, hown, hts⟩ (r_shirts l D cI cJ cB cC h th aw ai ab ac hi re aP ta po en be de fa a5 sp av an ak ne aW aC ag aT aN aF g682 H.size hg682_2) (cwV 0 hts gX11_wash_X11_shirts rfl rfl rfl ⟨rfl, hdX11_shirts⟩ ⟨Nat.le_of_ble_eq_true rfl, Nat.le_of_ble_eq_true rfl⟩) ⟨kBlind, va_recv hK hPc (ci := 10) (q0 := 0) rfl rfl, fun U hU hW => ⟨rfl, by rw [hU], hN.warm hW, hE.pass hS hFc hW hU, by rw [hU]; exact hPc, va_K.moved hW.alike hK, hDc⟩⟩ rfl rfl hl.1 rfl (lv_room (Nat.le_of_ble_eq_true rfl)) dX11_wash_58 ⟨Nat.le_of_ble_eq_true rfl, Nat.le_of_ble_eq_true rfl⟩) (fun r2134 u H locs hw hP hS => ?_)
      obtain ⟨k2135, k2136, k2137⟩ := hw
      refine k_join (hd := 74) (cells2 := 0) (slots2 := 0) (fun (u : Int32 × Int32) => match u with | (z2147, z2148) => [.int z2147, .int z2148, .ref aw]) (fun (u : Int32 × Int32) (H : Heap) (locs : List Loc) (ls : Array Slot) => match u with | (z2147, z2148) => (F_r_wash_l2_s (y681.toInt, (gT g682)) = F_r_wash_j6 y681.toInt (gT g682) z2147.toInt z2148.toInt) ∧ Rg z2147 (-1) 9 ∧ Rg z2148 145 156 ∧ va_P D vwCl [(h, oX11 th aw ai ab ac hi re aP ta po en be de fa a5 sp av an ak ne aW aC ag aT aN aF), (aw, kcI cI 2179 g682)] H ∧ va_D A [(h, oX11 th aw ai ab ac hi re aP ta po en be de fa a5 sp av an ak ne aW aC ag aT aN aF), (aw, kcI cI 2179 g682)] ∧ va_S A s.heap H locs ∧ lv_has ls 3 [(1, .int y681), (0, .ref h)]) (fun u H locs ls hI => ?_) (fun hJ74 => ?_)
      · skip
        clear hP hD hS hl
        obtain ⟨z2147, z2148⟩ := u
        obtain ⟨hF6, hz2147, hz2148, hP, hD, hS, hl⟩ := hI
        have hP : va_P D vwCl [(h, oX11 th aw ai ab ac hi re aP ta po en be de fa a5 sp av an ak ne aW aC ag aT aN aF), (aw, kcI cI 2179 g682)] H := hP
        have hD : va_D A [(h, oX11 th aw ai ab ac hi re aP ta po en be de fa a5 sp av an ak ne aW aC ag aT aN aF), (aw, kcI cI 2179 g682)] := hD
        have hl : lv_has ls 3 [(1, .int y681), (0, .ref h)] := hl
        show W _ _ _ _ _ _ _ _ _ _ _ _ _ _ _ (F0 m 74 ls [.int z2147, .int z2148, .ref aw])
        refine va_iast hx hb hK hP hD hS 1 0 rfl rfl (rg_in hz2148 (by decide)) dX11_wash_74 (fun H locs hP hD hS => ?_)
        have hP : va_P D vwCl [(h, oX11 th aw ai ab ac hi re aP ta po en be de fa a5 sp av an ak ne aW aC ag aT aN aF), (aw, kcI cI 2179 (upd g682 z2148.toNatClampNeg z2147))] H := hP
        have hD : va_D A [(h, oX11 th aw ai ab ac hi re aP ta po en be de fa a5 sp av an ak ne aW aC ag aT aN aF), (aw, kcI cI 2179 (upd g682 z2148.toNatClampNeg z2147))] := hD
        have k2150 : wB (upd g682 z2148.toNatClampNeg z2147) := wB_hi hg682_0 hg682_2 hz2148 (by decide)
        have k2151 : wL (upd g682 z2148.toNatClampNeg z2147) := wL_out hg682_1 hz2148 (by decide)
        have k2152 : wW (upd g682 z2148.toNatClampNeg z2147) := wW_hi hg682_2 hz2148 (by decide)
        generalize hg2149 : (upd g682 z2148.toNatClampNeg z2147) = g2149 at hP hD k2150 k2151 k2152
        obtain ⟨x2153, ex2153⟩ : ∃ y : Int32, y = y681 + 1 := ⟨_, rfl⟩
        refine lv_iinc (v := x2153) (lv' := [(1, .int x2153), (0, .ref h)]) hx hb dX11_wash_75 hl (k := 0) rfl (by rw [ex2153]; rfl) (by decide) rfl (fun ls hl => ?_)
        have k2154 : Rg x2153 1 12 := rg_add ex2153 k2131 (rg_lit (n := 1) (by decide)) (by decide)
        refine lv_goto (tgt := 41) hx hb dX11_wash_78 (by decide) ?_
        exact ih683 (x2153, g2149) _ _ _ (by show (12 - (x2153).toInt).toNat < (12 - (y681).toInt).toNat; exact mu_up ex2153 k2131 k2154 (by decide)) ⟨(hF2.trans (kIter_go (hF6.trans (kLet_eq (ke_st hg2149) (kLet_eq (ti_add ex2153 k2131 (rg_lit (n := 1) (by decide)) (by decide) rfl rfl) rfl))))), (rg_w k2154 (by decide)), k2150, k2151, k2152, hP.sub (ws' := [(h, oX11 th aw ai ab ac hi re aP ta po en be de fa a5 sp av an ak ne aW aC ag aT aN aF), (aw, kcI cI 2179 g2149)]) [0, 1] rfl, hD.sub (ws' := [(h, oX11 th aw ai ab ac hi re aP ta po en be de fa a5 sp av an ak ne aW aC ag aT aN aF), (aw, kcI cI 2179 g2149)]) [0, 1] (by decide) rfl, hS, lv_sub (l' := [(1, .int x2153), (0, .ref h)]) hl [0, 1] rfl⟩
      refine lv_icmp_ge (tgt := 73) hx hb dX11_wash_61 (by decide) (fun c2155 => ?_) (fun c2155 => ?_)
      · skip
        have k2156 : Rg r2134 0 11 := rg_e1 (leI c2155) k2136 k2131 (by decide)
        refine lv_iconst (v := (-1)) hx hb dX11_wash_73 (by decide) ?_
        exact hJ74 ((-1 : Int32), x2132) _ _ _ ⟨(kC_eq rfl (kif_f (xF_le c684) (kLet_eq (ti_add ex2132 (rg_lit (n := 145) (by decide)) k2131 (by decide) rfl rfl) (kLet_eq (k2137).symm (kif_t (leI c2155) rfl))))), (rg_w (rg_lit (n := -1) (by decide)) (by decide)), k2133, hP.sub (ws' := [(h, oX11 th aw ai ab ac hi re aP ta po en be de fa a5 sp av an ak ne aW aC ag aT aN aF), (aw, kcI cI 2179 g682)]) [0, 1] rfl, hD.sub (ws' := [(h, oX11 th aw ai ab ac hi re aP ta po en be de fa a5 sp av an ak ne aW aC ag aT aN aF), (aw, kcI cI 2179 g682)]) [0, 1] (by decide) rfl, hS, lv_sub (l' := [(1, .int y681), (0, .ref h)]) hl [0, 1] rfl⟩
      · skip
        have k2157 : Rg r2134 1 12 := rg_l2 (nleI c2155) k2131 k2136 (by decide)
        refine lv_aload_n hx hb dX11_wash_64 rfl (lv_at hl 1 rfl) ?_
        refine lv_iload_n hx hb dX11_wash_65 rfl (lv_at hl 0 rfl) ?_
        refine lv_iconst (v := 5) hx hb dX11_wash_66 (by decide) ?_
        refine kpurei (wc := [(h, oX11 th aw ai ab ac hi re aP ta po en be de fa a5 sp av an ak ne aW aC ag aT aN aF), (aw, kcI cI 2179 g682)]) hP hD hS hA [0, 1] rfl (by decide) (fun hPc hDc hFc => va_runV (As := [.int y681, .int 5]) (rest := [.int x2132, .ref aw]) ⟨hx, hb, hml, hown, hts⟩ (r_of5 l D cI cJ cB cC h th aw ai ab ac hi re aP ta po en be de fa a5 sp av an ak ne aW aC ag aT aN aF g682 y681 H.size k2131 hg682_2) (cwV 2 hts gX11_wash_X11_of rfl rfl rfl ⟨rfl, hdX11_of⟩ ⟨Nat.le_of_ble_eq_true rfl, Nat.le_of_ble_eq_true rfl⟩) ⟨kBlind, va_recv hK hPc (ci := 10) (q0 := 0) rfl rfl, fun U hU hW => ⟨rfl, by rw [hU], hN.warm hW, hE.pass hS hFc hW hU, by rw [hU]; exact hPc, va_K.moved hW.alike hK, hDc⟩⟩ rfl rfl hl.1 rfl (lv_room (Nat.le_of_ble_eq_true rfl)) dX11_wash_67 ⟨Nat.le_of_ble_eq_true rfl, Nat.le_of_ble_eq_true rfl⟩) (fun r2158 u H locs hw hP hS => ?_)
        obtain ⟨k2159, k2160, k2161⟩ := hw
        refine lv_goto (tgt := 74) hx hb dX11_wash_70 (by decide) ?_
        exact hJ74 (r2158, x2132) _ _ _ ⟨(kC_eq rfl (kif_f (xF_le c684) (kLet_eq (ti_add ex2132 (rg_lit (n := 145) (by decide)) k2131 (by decide) rfl rfl) (kLet_eq (k2137).symm (kif_f (xF_le c2155) (kLet_eq (k2161).symm rfl)))))), k2160, k2133, hP.sub (ws' := [(h, oX11 th aw ai ab ac hi re aP ta po en be de fa a5 sp av an ak ne aW aC ag aT aN aF), (aw, kcI cI 2179 g682)]) [0, 1] rfl, hD.sub (ws' := [(h, oX11 th aw ai ab ac hi re aP ta po en be de fa a5 sp av an ak ne aW aC ag aT aN aF), (aw, kcI cI 2179 g682)]) [0, 1] (by decide) rfl, hS, lv_sub (l' := [(1, .int y681), (0, .ref h)]) hl [0, 1] rfl⟩
  · skip
    have k2162 : Rg y273 12 359 := rg_e2 (nltI c276) (rg_lit (n := 12) (by decide)) hy273 (by decide)
    refine lv_aload_n hx hb dX11_wash_10 rfl (lv_at hl 1 rfl) ?_
    refine va_get (D := D) (ci := 10) (v := .ref aw) (C := RX11) (T := TX11) (N := 26) hx hb hts iG_X11 hown hK hP 0 rfl rfl 1 (by decide) (hts _ w5_3) (fun _ h9 => h9) rfl dX11_wash_11 ?_
    refine lv_sipush (v := 145) hx hb dX11_wash_14 (by decide) ?_
    refine lv_iload_n hx hb dX11_wash_17 rfl (lv_at hl 0 rfl) ?_
    refine lv_iadd hx hb dX11_wash_18 ?_
    refine lv_topi (fun x2163 ex2163 => ?_)
    have k2164 : Rg x2163 157 504 := rg_add ex2163 (rg_lit (n := 145) (by decide)) k2162 (by decide)
    refine lv_aload_n hx hb dX11_wash_19 rfl (lv_at hl 1 rfl) ?_
    refine va_get (D := D) (ci := 10) (v := .ref aw) (C := RX11) (T := TX11) (N := 26) hx hb hts iG_X11 hown hK hP 0 rfl rfl 1 (by decide) (hts _ w5_3) (fun _ h9 => h9) rfl dX11_wash_20 ?_
    refine lv_sipush (v := 145) hx hb dX11_wash_23 (by decide) ?_
    refine lv_iload_n hx hb dX11_wash_26 rfl (lv_at hl 0 rfl) ?_
    refine lv_iadd hx hb dX11_wash_27 ?_
    refine lv_topi (fun x2165 ex2165 => ?_)
    have k2166 : Rg x2165 157 504 := rg_add ex2165 (rg_lit (n := 145) (by decide)) k2162 (by decide)
    refine lv_bipush (v := 12) hx hb dX11_wash_28 (by decide) ?_
    refine lv_isub hx hb dX11_wash_30 ?_
    refine lv_topi (fun x2167 ex2167 => ?_)
    have k2168 : Rg x2167 145 492 := rg_sub ex2167 k2166 (rg_lit (n := 12) (by decide)) (by decide)
    refine va_iald hx hb hK hP 1 0 rfl rfl (rg_in k2168 (by decide)) dX11_wash_31 ?_
    refine lv_topi (fun x2169 ex2169 => ?_)
    refine va_iast hx hb hK hP hD hS 1 0 rfl rfl (rg_in k2164 (by decide)) dX11_wash_32 (fun H locs hP hD hS => ?_)
    have hP : va_P D vwCl [(h, oX11 th aw ai ab ac hi re aP ta po en be de fa a5 sp av an ak ne aW aC ag aT aN aF), (aw, kcI cI 2179 (upd g274 x2163.toNatClampNeg x2169))] H := hP
    have hD : va_D A [(h, oX11 th aw ai ab ac hi re aP ta po en be de fa a5 sp av an ak ne aW aC ag aT aN aF), (aw, kcI cI 2179 (upd g274 x2163.toNatClampNeg x2169))] := hD
    have k2171 : wB (upd g274 x2163.toNatClampNeg x2169) := wB_hi hg274_0 hg274_2 k2164 (by decide)
    have k2172 : wL (upd g274 x2163.toNatClampNeg x2169) := wL_out hg274_1 k2164 (by decide)
    have k2173 : wW (upd g274 x2163.toNatClampNeg x2169) := wW_hi hg274_2 k2164 (by decide)
    generalize hg2170 : (upd g274 x2163.toNatClampNeg x2169) = g2170 at hP hD k2171 k2172 k2173
    obtain ⟨x2174, ex2174⟩ : ∃ y : Int32, y = y273 + (-1) := ⟨_, rfl⟩
    refine lv_iinc (v := x2174) (lv' := [(1, .int x2174), (0, .ref h)]) hx hb dX11_wash_33 hl (k := 0) rfl (by rw [ex2174]; rfl) (by decide) rfl (fun ls hl => ?_)
    have k2175 : Rg x2174 11 358 := rg_add ex2174 k2162 (rg_lit (n := -1) (by decide)) (by decide)
    refine lv_goto (tgt := 4) hx hb dX11_wash_36 (by decide) ?_
    exact ih275 (x2174, g2170) _ _ _ (by show ((x2174).toInt - 11).toNat < ((y273).toInt - 11).toNat; exact mu_dn ex2174 k2162 k2175 (by decide)) ⟨(hF1.trans (kIter_go (kC_eq rfl (kif_f (xF_lt c276) (kLet_eq (ti_add ex2163 (rg_lit (n := 145) (by decide)) k2162 (by decide) rfl rfl) (kLet_eq (ti_add ex2165 (rg_lit (n := 145) (by decide)) k2162 (by decide) rfl rfl) (kLet_eq (ti_sub ex2167 k2166 (rg_lit (n := 12) (by decide)) (by decide) rfl rfl) (kLet_eq (ke_ld ex2169) (kLet_eq (ke_st hg2170) (kLet_eq (ti_add ex2174 k2162 (rg_lit (n := -1) (by decide)) (by decide) rfl rfl) rfl)))))))))), (rg_w k2175 (by decide)), k2171, k2172, k2173, hP.sub (ws' := [(h, oX11 th aw ai ab ac hi re aP ta po en be de fa a5 sp av an ak ne aW aC ag aT aN aF), (aw, kcI cI 2179 g2170)]) [0, 1] rfl, hD.sub (ws' := [(h, oX11 th aw ai ab ac hi re aP ta po en be de fa a5 sp av an ak ne aW aC ag aT aN aF), (aw, kcI cI 2179 g2170)]) [0, 1] (by decide) rfl, hS, lv_sub (l' := [(1, .int x2174), (0, .ref h)]) hl [0, 1] rfl⟩

def kwX11_gives : List Cond := .code yX11_gives cX11_gives 3 none :: kG
theorem hdX11_gives : yX11_gives.cls ≠ "java/lang/invoke/MethodHandle" ∧ yX11_gives.cls ≠ "java/lang/invoke/VarHandle" ∧ (parseMethodDescriptor yX11_gives.desc).map (fun d => d.parameters.length) = some 2 := by decide +kernel
theorem gX11_gives_X11_of : GoodIn kG (wsV RX11 156 RX11 yX11_of kwX11_of) := gK w21_9 (gK w21_10 (gK w21_11 (gK w0_5 (gK w21_12 gGG))))
theorem gX11_gives_X11_sets : GoodIn kG (wsV RX11 150 RX11 yX11_sets kwX11_sets) := gK w20_21 (gK w20_22 (gK w20_23 (gK w0_5 (gK w21_0 gGG))))
theorem gX11_gives_X11_setsMan : GoodIn kG (wsV RX11 141 RX11 yX11_setsMan kwX11_setsMan) := gK w20_9 (gK w20_10 (gK w20_11 (gK w0_5 (gK w20_12 gGG))))
theorem dX11_gives_0 : decode cX11_gives 0 = .ok (.aload_n 0, 1) := by decide +kernel
theorem dX11_gives_1 : decode cX11_gives 1 = .ok (.iload_n 1, 1) := by decide +kernel
theorem dX11_gives_2 : decode cX11_gives 2 = .ok (.iconst 4, 1) := by decide +kernel
theorem dX11_gives_3 : decode cX11_gives 3 = .ok (.iload_n 2, 1) := by decide +kernel
theorem dX11_gives_4 : decode cX11_gives 4 = .ok (.invokevirtual 141, 3) := by decide +kernel
theorem dX11_gives_7 : decode cX11_gives 7 = .ok (.aload_n 0, 1) := by decide +kernel
theorem dX11_gives_8 : decode cX11_gives 8 = .ok (.iload_n 2, 1) := by decide +kernel
theorem dX11_gives_9 : decode cX11_gives 9 = .ok (.iconst 5, 1) := by decide +kernel
theorem dX11_gives_10 : decode cX11_gives 10 = .ok (.iload_n 1, 1) := by decide +kernel
theorem dX11_gives_11 : decode cX11_gives 11 = .ok (.invokevirtual 150, 3) := by decide +kernel
theorem dX11_gives_14 : decode cX11_gives 14 = .ok (.aload_n 0, 1) := by decide +kernel
theorem dX11_gives_15 : decode cX11_gives 15 = .ok (.iload_n 2, 1) := by decide +kernel
theorem dX11_gives_16 : decode cX11_gives 16 = .ok (.iconst 2, 1) := by decide +kernel
theorem dX11_gives_17 : decode cX11_gives 17 = .ok (.aload_n 0, 1) := by decide +kernel
theorem dX11_gives_18 : decode cX11_gives 18 = .ok (.iload_n 2, 1) := by decide +kernel
theorem dX11_gives_19 : decode cX11_gives 19 = .ok (.iconst 2, 1) := by decide +kernel
theorem dX11_gives_20 : decode cX11_gives 20 = .ok (.invokevirtual 156, 3) := by decide +kernel
theorem dX11_gives_23 : decode cX11_gives 23 = .ok (.iconst 2, 1) := by decide +kernel
theorem dX11_gives_24 : decode cX11_gives 24 = .ok (.idiv, 1) := by decide +kernel
theorem dX11_gives_25 : decode cX11_gives 25 = .ok (.invokevirtual 150, 3) := by decide +kernel
theorem dX11_gives_28 : decode cX11_gives 28 = .ok (.return_, 1) := by decide +kernel
set_option maxHeartbeats 4000000 in
set_option maxRecDepth 100000 in
/-- reference: gives -/
theorem r_gives (l : Launch) (D : va_G) (cI cJ cB cC : ClassId) (h : Nat) (th : Int32) (aw : Nat) (ai : Nat) (ab : Nat) (ac : Nat) (hi : Int32) (re : Int32) (aP : Nat) (ta : Int32) (po : Int32) (en : Int32) (be : Int32) (de : Int32) (fa : Int32) (a5 : Nat) (sp : Int32) (av : Nat) (an : Nat) (ak : Nat) (ne : Int32) (aW : Nat) (aC : Nat) (ag : Nat) (aT : Nat) (aN : Nat) (aF : Nat) (fw : Nat → Int32) (mm : Int32) (b : Int32) (sz : Nat) (H_mm : Rg mm 0 9) (H_b : Rg b 0 11) (H_fw_W : wW fw) (H_fw_B : wB fw) (H_fw_L : wL fw) : Met l yX11_gives kwX11_gives ({ frames := 1, cells := 0, slots := 0, locals := 23 } : Room) (kPre D (kT cI cJ cB cC) sz [(h, oX11 th aw ai ab ac hi re aP ta po en be de fa a5 sp av an ak ne aW aC ag aT aN aF), (aw, kcI cI 2179 fw)] [.ref h, .int mm, .int b]) (va_Qv (fun (f0_ : (Nat → Int32)) => wB f0_ ∧ wL f0_ ∧ wW f0_ ∧ F_r_gives (gT fw) (mm : Int32).toInt (b : Int32).toInt = ((gT f0_))) (fun (f0_ : (Nat → Int32)) (t : State) => kB D (kT cI cJ cB cC) (va_A [(h, oX11 th aw ai ab ac hi re aP ta po en be de fa a5 sp av an ak ne aW aC ag aT aN aF), (aw, kcI cI 2179 fw)] sz) [(h, oX11 th aw ai ab ac hi re aP ta po en be de fa a5 sp av an ak ne aW aC ag aT aN aF), (aw, kcI cI 2179 f0_)] t) (va_A [(h, oX11 th aw ai ab ac hi re aP ta po en be de fa a5 sp av an ak ne aW aC ag aT aN aF), (aw, kcI cI 2179 fw)] sz)) 0 0 (va_A [(h, oX11 th aw ai ab ac hi re aP ta po en be de fa a5 sp av an ak ne aW aC ag aT aN aF), (aw, kcI cI 2179 fw)] sz) := by
  refine Met.ofW (cc := cX11_gives) (maxL := 3) (ret := none) (by decide) rfl ?_
  intro p e s m args below meth c s₁ B hml hv
  obtain ⟨rfl, hsz, hN, hE, hP, hK, hD0⟩ := hv
  have hx := B.exec
  have hb := B.bytes
  have hr := B.returns
  have hts := fun (w : Cond) (h : w ∈ kG) => atoms_spec (ws := kwX11_gives) B.pre w (List.mem_cons_of_mem _ h)
  have hown : s.vm.findClass RX11 = some m.cls := findClass_of_methodNamed B.named
  subst hsz
  have hD := hD0.self (sz := s.heap.size)
  generalize hAe : va_A [(h, oX11 th aw ai ab ac hi re aP ta po en be de fa a5 sp av an ak ne aW aC ag aT aN aF), (aw, kcI cI 2179 fw)] s.heap.size = A at hD hE ⊢
  have hA : ∀ q : Nat, s.heap.size ≤ q → A q := fun q h => by rw [← hAe]; exact Or.inr h
  have hl := lv_entry ([.ref h, .int mm, .int b]) (n := 3) (Nat.le_of_ble_eq_true rfl)
  rw [lg_entry_eq]
  generalize (lg_sl ([.ref h, .int mm, .int b]) ++ List.replicate (3 - (lg_sl ([.ref h, .int mm, .int b])).length) Slot.unset).toArray = ls at hl ⊢
  have hl : lv_has ls 3 [(0, .ref h), (1, .int mm), (2, .int b)] := hl
  obtain ⟨H, hH0⟩ : ∃ H, H = s.heap := ⟨_, rfl⟩
  have hS : va_S A s.heap H [] := by rw [hH0]; exact va_S.rf
  have hP : va_P D vwCl [(h, oX11 th aw ai ab ac hi re aP ta po en be de fa a5 sp av an ak ne aW aC ag aT aN aF), (aw, kcI cI 2179 fw)] H := by rw [hH0]; exact hP
  refine kHeap hH0 ?_
  clear hH0
  refine lv_aload_n hx hb dX11_gives_0 rfl (lv_at hl 0 rfl) ?_
  refine lv_iload_n hx hb dX11_gives_1 rfl (lv_at hl 1 rfl) ?_
  refine lv_iconst (v := 4) hx hb dX11_gives_2 (by decide) ?_
  refine lv_iload_n hx hb dX11_gives_3 rfl (lv_at hl 2 rfl) ?_
  refine kcallv (wc := [(h, oX11 th aw ai ab ac hi re aP ta po en be de fa a5 sp av an ak ne aW aC ag aT aN aF), (aw, kcI cI 2179 fw)]) (wr := []) hP hD hS hA [0, 1] [] rfl rfl (by decide) (by decide) (by decide) (fun hPc hDc hFc => va_runV (As := [.int mm, .int 4, .int b]) (rest := []) ⟨hx, hb, hml, hown, hts⟩ (r_setsMan4 l D cI cJ cB cC h th aw ai ab ac hi re aP ta po en be de fa a5 sp av an ak ne aW aC ag aT aN aF fw mm b H.size H_mm (rg_w H_b (by decide)) H_fw_W H_fw_B H_fw_L) (cwV 3 hts gX11_gives_X11_setsMan rfl rfl rfl ⟨rfl, hdX11_setsMan⟩ ⟨Nat.le_of_ble_eq_true rfl, Nat.le_of_ble_eq_true rfl⟩) ⟨kBlind, va_recv hK hPc (ci := 10) (q0 := 0) rfl rfl, fun U hU hW => ⟨rfl, by rw [hU], hN.warm hW, hE.pass hS hFc hW hU, by rw [hU]; exact hPc, va_K.moved hW.alike hK, hDc⟩⟩ rfl rfl hl.1 rfl (lv_room (Nat.le_of_ble_eq_true rfl)) dX11_gives_4 ⟨Nat.le_of_ble_eq_true rfl, Nat.le_of_ble_eq_true rfl⟩) (fun u H locs hw hP hD hS => ?_)
  obtain ⟨g1, rfl⟩ : ∃ z, z = u := ⟨_, rfl⟩
  have hP : va_P D vwCl [(h, oX11 th aw ai ab ac hi re aP ta po en be de fa a5 sp av an ak ne aW aC ag aT aN aF), (aw, kcI cI 2179 g1)] H := hP
  have hD : va_D A [(h, oX11 th aw ai ab ac hi re aP ta po en be de fa a5 sp av an ak ne aW aC ag aT aN aF), (aw, kcI cI 2179 g1)] := hD
  obtain ⟨k2, k3, k4, k5⟩ := hw
  refine lv_aload_n hx hb dX11_gives_7 rfl (lv_at hl 0 rfl) ?_
  refine lv_iload_n hx hb dX11_gives_8 rfl (lv_at hl 2 rfl) ?_
  refine lv_iconst (v := 5) hx hb dX11_gives_9 (by decide) ?_
  refine lv_iload_n hx hb dX11_gives_10 rfl (lv_at hl 1 rfl) ?_
  refine kcallv (wc := [(h, oX11 th aw ai ab ac hi re aP ta po en be de fa a5 sp av an ak ne aW aC ag aT aN aF), (aw, kcI cI 2179 g1)]) (wr := []) hP hD hS hA [0, 1] [] rfl rfl (by decide) (by decide) (by decide) (fun hPc hDc hFc => va_runV (As := [.int b, .int 5, .int mm]) (rest := []) ⟨hx, hb, hml, hown, hts⟩ (r_sets5 l D cI cJ cB cC h th aw ai ab ac hi re aP ta po en be de fa a5 sp av an ak ne aW aC ag aT aN aF g1 b mm H.size H_b (rg_w H_mm (by decide)) k4 k2 k3) (cwV 3 hts gX11_gives_X11_sets rfl rfl rfl ⟨rfl, hdX11_sets⟩ ⟨Nat.le_of_ble_eq_true rfl, Nat.le_of_ble_eq_true rfl⟩) ⟨kBlind, va_recv hK hPc (ci := 10) (q0 := 0) rfl rfl, fun U hU hW => ⟨rfl, by rw [hU], hN.warm hW, hE.pass hS hFc hW hU, by rw [hU]; exact hPc, va_K.moved hW.alike hK, hDc⟩⟩ rfl rfl hl.1 rfl (lv_room (Nat.le_of_ble_eq_true rfl)) dX11_gives_11 ⟨Nat.le_of_ble_eq_true rfl, Nat.le_of_ble_eq_true rfl⟩) (fun u H locs hw hP hD hS => ?_)
  obtain ⟨g6, rfl⟩ : ∃ z, z = u := ⟨_, rfl⟩
  have hP : va_P D vwCl [(h, oX11 th aw ai ab ac hi re aP ta po en be de fa a5 sp av an ak ne aW aC ag aT aN aF), (aw, kcI cI 2179 g6)] H := hP
  have hD : va_D A [(h, oX11 th aw ai ab ac hi re aP ta po en be de fa a5 sp av an ak ne aW aC ag aT aN aF), (aw, kcI cI 2179 g6)] := hD
  obtain ⟨k7, k8, k9, k10⟩ := hw
  refine lv_aload_n hx hb dX11_gives_14 rfl (lv_at hl 0 rfl) ?_
  refine lv_iload_n hx hb dX11_gives_15 rfl (lv_at hl 2 rfl) ?_
  refine lv_iconst (v := 2) hx hb dX11_gives_16 (by decide) ?_
  refine lv_aload_n hx hb dX11_gives_17 rfl (lv_at hl 0 rfl) ?_
  refine lv_iload_n hx hb dX11_gives_18 rfl (lv_at hl 2 rfl) ?_
  refine lv_iconst (v := 2) hx hb dX11_gives_19 (by decide) ?_
  refine kpurei (wc := [(h, oX11 th aw ai ab ac hi re aP ta po en be de fa a5 sp av an ak ne aW aC ag aT aN aF), (aw, kcI cI 2179 g6)]) hP hD hS hA [0, 1] rfl (by decide) (fun hPc hDc hFc => va_runV (As := [.int b, .int 2]) (rest := [.int 2, .int b, .ref h]) ⟨hx, hb, hml, hown, hts⟩ (r_of2 l D cI cJ cB cC h th aw ai ab ac hi re aP ta po en be de fa a5 sp av an ak ne aW aC ag aT aN aF g6 b H.size H_b k9) (cwV 2 hts gX11_gives_X11_of rfl rfl rfl ⟨rfl, hdX11_of⟩ ⟨Nat.le_of_ble_eq_true rfl, Nat.le_of_ble_eq_true rfl⟩) ⟨kBlind, va_recv hK hPc (ci := 10) (q0 := 0) rfl rfl, fun U hU hW => ⟨rfl, by rw [hU], hN.warm hW, hE.pass hS hFc hW hU, by rw [hU]; exact hPc, va_K.moved hW.alike hK, hDc⟩⟩ rfl rfl hl.1 rfl (lv_room (Nat.le_of_ble_eq_true rfl)) dX11_gives_20 ⟨Nat.le_of_ble_eq_true rfl, Nat.le_of_ble_eq_true rfl⟩) (fun r11 u H locs hw hP hS => ?_)
  obtain ⟨k12, k13⟩ := hw
  refine lv_iconst (v := 2) hx hb dX11_gives_23 (by decide) ?_
  refine lv_idiv hx hb dX11_gives_24 (by decide) ?_
  refine lv_topi (fun x14 ex14 => ?_)
  refine kcallv (wc := [(h, oX11 th aw ai ab ac hi re aP ta po en be de fa a5 sp av an ak ne aW aC ag aT aN aF), (aw, kcI cI 2179 g6)]) (wr := []) hP hD hS hA [0, 1] [] rfl rfl (by decide) (by decide) (by decide) (fun hPc hDc hFc => va_runV (As := [.int b, .int 2, .int x14]) (rest := []) ⟨hx, hb, hml, hown, hts⟩ (r_sets2 l D cI cJ cB cC h th aw ai ab ac hi re aP ta po en be de fa a5 sp av an ak ne aW aC ag aT aN aF g6 b x14 H.size H_b k9 k7 k8) (cwV 3 hts gX11_gives_X11_sets rfl rfl rfl ⟨rfl, hdX11_sets⟩ ⟨Nat.le_of_ble_eq_true rfl, Nat.le_of_ble_eq_true rfl⟩) ⟨kBlind, va_recv hK hPc (ci := 10) (q0 := 0) rfl rfl, fun U hU hW => ⟨rfl, by rw [hU], hN.warm hW, hE.pass hS hFc hW hU, by rw [hU]; exact hPc, va_K.moved hW.alike hK, hDc⟩⟩ rfl rfl hl.1 rfl (lv_room (Nat.le_of_ble_eq_true rfl)) dX11_gives_25 ⟨Nat.le_of_ble_eq_true rfl, Nat.le_of_ble_eq_true rfl⟩) (fun u H locs hw hP hD hS => ?_)
  obtain ⟨g15, rfl⟩ : ∃ z, z = u := ⟨_, rfl⟩
  have hP : va_P D vwCl [(h, oX11 th aw ai ab ac hi re aP ta po en be de fa a5 sp av an ak ne aW aC ag aT aN aF), (aw, kcI cI 2179 g15)] H := hP
  have hD : va_D A [(h, oX11 th aw ai ab ac hi re aP ta po en be de fa a5 sp av an ak ne aW aC ag aT aN aF), (aw, kcI cI 2179 g15)] := hD
  obtain ⟨k16, k17, k18, k19⟩ := hw
  have hP9 := hP.sub (ws' := [(h, oX11 th aw ai ab ac hi re aP ta po en be de fa a5 sp av an ak ne aW aC ag aT aN aF), (aw, kcI cI 2179 g15)]) [0, 1] rfl
  have hD9 := hD.sub (ws' := [(h, oX11 th aw ai ab ac hi re aP ta po en be de fa a5 sp av an ak ne aW aC ag aT aN aF), (aw, kcI cI 2179 g15)]) [0, 1] (by decide) rfl
  exact W.vret hx hb hr (fun t ht hW => ⟨⟨(g15), rfl, ⟨k16, k17, k18, (kLet_eq (k5).symm (kLet_eq (k10).symm (kLet_eq (k13).symm (kLet_eq (ke_div ex14) (kLet_eq (k19).symm rfl)))))⟩, by rw [ht]; exact hP9, va_K.moved hW.alike hK, hD9⟩, hS.F ht⟩) hS.2.2 dX11_gives_28

def kwX11_chest : List Cond := .code yX11_chest cX11_chest 3 (some .int) :: kG
theorem hdX11_chest : yX11_chest.cls ≠ "java/lang/invoke/MethodHandle" ∧ yX11_chest.cls ≠ "java/lang/invoke/VarHandle" ∧ (parseMethodDescriptor yX11_chest.desc).map (fun d => d.parameters.length) = some 0 := by decide +kernel
theorem gX11_chest_X11_of : GoodIn kG (wsV RX11 156 RX11 yX11_of kwX11_of) := gK w21_9 (gK w21_10 (gK w21_11 (gK w0_5 (gK w21_12 gGG))))
theorem gX11_chest_X11_shirts : GoodIn kG (wsV RX11 79 RX11 yX11_shirts kwX11_shirts) := gK w20_17 (gK w20_18 (gK w20_19 (gK w0_5 (gK w20_20 gGG))))
theorem dX11_chest_0 : decode cX11_chest 0 = .ok (.iconst 0, 1) := by decide +kernel
theorem dX11_chest_1 : decode cX11_chest 1 = .ok (.istore_n 1, 1) := by decide +kernel
theorem dX11_chest_2 : decode cX11_chest 2 = .ok (.iconst 0, 1) := by decide +kernel
theorem dX11_chest_3 : decode cX11_chest 3 = .ok (.istore_n 2, 1) := by decide +kernel
theorem dX11_chest_4 : decode cX11_chest 4 = .ok (.iload_n 2, 1) := by decide +kernel
theorem dX11_chest_5 : decode cX11_chest 5 = .ok (.aload_n 0, 1) := by decide +kernel
theorem dX11_chest_6 : decode cX11_chest 6 = .ok (.invokevirtual 79, 3) := by decide +kernel
theorem dX11_chest_9 : decode cX11_chest 9 = .ok (.if_icmp .ge 28, 3) := by decide +kernel
theorem dX11_chest_12 : decode cX11_chest 12 = .ok (.iload_n 1, 1) := by decide +kernel
theorem dX11_chest_13 : decode cX11_chest 13 = .ok (.aload_n 0, 1) := by decide +kernel
theorem dX11_chest_14 : decode cX11_chest 14 = .ok (.iload_n 2, 1) := by decide +kernel
theorem dX11_chest_15 : decode cX11_chest 15 = .ok (.iconst 5, 1) := by decide +kernel
theorem dX11_chest_16 : decode cX11_chest 16 = .ok (.invokevirtual 156, 3) := by decide +kernel
theorem dX11_chest_19 : decode cX11_chest 19 = .ok (.ifCond .ge 9, 3) := by decide +kernel
theorem dX11_chest_22 : decode cX11_chest 22 = .ok (.iconst 1, 1) := by decide +kernel
theorem dX11_chest_23 : decode cX11_chest 23 = .ok (.iload_n 2, 1) := by decide +kernel
theorem dX11_chest_24 : decode cX11_chest 24 = .ok (.ishl, 1) := by decide +kernel
theorem dX11_chest_25 : decode cX11_chest 25 = .ok (.goto 4, 3) := by decide +kernel
theorem dX11_chest_28 : decode cX11_chest 28 = .ok (.iconst 0, 1) := by decide +kernel
theorem dX11_chest_29 : decode cX11_chest 29 = .ok (.ior, 1) := by decide +kernel
theorem dX11_chest_30 : decode cX11_chest 30 = .ok (.istore_n 1, 1) := by decide +kernel
theorem dX11_chest_31 : decode cX11_chest 31 = .ok (.iinc 2 1, 3) := by decide +kernel
theorem dX11_chest_34 : decode cX11_chest 34 = .ok (.goto (-30), 3) := by decide +kernel
theorem dX11_chest_37 : decode cX11_chest 37 = .ok (.iload_n 1, 1) := by decide +kernel
theorem dX11_chest_38 : decode cX11_chest 38 = .ok (.ireturn, 1) := by decide +kernel
set_option maxHeartbeats 4000000 in
set_option maxRecDepth 100000 in
/-- reference: chest -/
theorem r_chest (l : Launch) (D : va_G) (cI cJ cB cC : ClassId) (h : Nat) (th : Int32) (aw : Nat) (ai : Nat) (ab : Nat) (ac : Nat) (hi : Int32) (re : Int32) (aP : Nat) (ta : Int32) (po : Int32) (en : Int32) (be : Int32) (de : Int32) (fa : Int32) (a5 : Nat) (sp : Int32) (av : Nat) (an : Nat) (ak : Nat) (ne : Int32) (aW : Nat) (aC : Nat) (ag : Nat) (aT : Nat) (aN : Nat) (aF : Nat) (fw : Nat → Int32) (sz : Nat) (H_fw_W : wW fw) : Met l yX11_chest kwX11_chest ({ frames := 1, cells := 0, slots := 0, locals := 22 } : Room) (kPre D (kT cI cJ cB cC) sz [(h, oX11 th aw ai ab ac hi re aP ta po en be de fa a5 sp av an ak ne aW aC ag aT aN aF), (aw, kcI cI 2179 fw)] [.ref h]) (va_Qi (fun (r : Int32) (_ : Unit) => Rg r 0 4095 ∧ F_r_chest (gT fw) = ((r : Int32).toInt)) (fun (_ : Unit) (t : State) => kB D (kT cI cJ cB cC) (va_A [(h, oX11 th aw ai ab ac hi re aP ta po en be de fa a5 sp av an ak ne aW aC ag aT aN aF), (aw, kcI cI 2179 fw)] sz) [(h, oX11 th aw ai ab ac hi re aP ta po en be de fa a5 sp av an ak ne aW aC ag aT aN aF), (aw, kcI cI 2179 fw)] t) (va_A [(h, oX11 th aw ai ab ac hi re aP ta po en be de fa a5 sp av an ak ne aW aC ag aT aN aF), (aw, kcI cI 2179 fw)] sz)) 0 0 (va_A [(h, oX11 th aw ai ab ac hi re aP ta po en be de fa a5 sp av an ak ne aW aC ag aT aN aF), (aw, kcI cI 2179 fw)] sz) := by
  refine Met.ofW (cc := cX11_chest) (maxL := 3) (ret := (some .int)) (by decide) rfl ?_
  intro p e s m args below meth c s₁ B hml hv
  obtain ⟨rfl, hsz, hN, hE, hP, hK, hD0⟩ := hv
  have hx := B.exec
  have hb := B.bytes
  have hr := B.returns
  have hts := fun (w : Cond) (h : w ∈ kG) => atoms_spec (ws := kwX11_chest) B.pre w (List.mem_cons_of_mem _ h)
  have hown : s.vm.findClass RX11 = some m.cls := findClass_of_methodNamed B.named
  subst hsz
  have hD := hD0.self (sz := s.heap.size)
  generalize hAe : va_A [(h, oX11 th aw ai ab ac hi re aP ta po en be de fa a5 sp av an ak ne aW aC ag aT aN aF), (aw, kcI cI 2179 fw)] s.heap.size = A at hD hE ⊢
  have hA : ∀ q : Nat, s.heap.size ≤ q → A q := fun q h => by rw [← hAe]; exact Or.inr h
  have hl := lv_entry ([.ref h]) (n := 3) (Nat.le_of_ble_eq_true rfl)
  rw [lg_entry_eq]
  generalize (lg_sl ([.ref h]) ++ List.replicate (3 - (lg_sl ([.ref h])).length) Slot.unset).toArray = ls at hl ⊢
  have hl : lv_has ls 3 [(0, .ref h)] := hl
  obtain ⟨H, hH0⟩ : ∃ H, H = s.heap := ⟨_, rfl⟩
  have hS : va_S A s.heap H [] := by rw [hH0]; exact va_S.rf
  have hP : va_P D vwCl [(h, oX11 th aw ai ab ac hi re aP ta po en be de fa a5 sp av an ak ne aW aC ag aT aN aF), (aw, kcI cI 2179 fw)] H := by rw [hH0]; exact hP
  refine kHeap hH0 ?_
  clear hH0
  refine lv_iconst (v := 0) hx hb dX11_chest_0 (by decide) ?_
  refine lv_istore_n (lv' := [(1, .int 0), (0, .ref h)]) hx hb dX11_chest_1 rfl hl (by decide) rfl (fun ls hl => ?_)
  refine lv_iconst (v := 0) hx hb dX11_chest_2 (by decide) ?_
  refine lv_istore_n (lv' := [(2, .int 0), (1, .int 0), (0, .ref h)]) hx hb dX11_chest_3 rfl hl (by decide) rfl (fun ls hl => ?_)
  refine k_loop (hd := 4) (fun (u : Int32 × Int32) => match u with | (y375, y376) => (12 - (y375).toInt).toNat) (fun (u : Int32 × Int32) (H : Heap) (locs : List Loc) (ls : Array Slot) => match u with | (y375, y376) => (F_r_chest (gT fw) = F_r_chest_l1 (gT fw) (y375.toInt, y376.toInt)) ∧ Rg y375 0 12 ∧ Rg y376 0 4095 ∧ va_P D vwCl [(h, oX11 th aw ai ab ac hi re aP ta po en be de fa a5 sp av an ak ne aW aC ag aT aN aF), (aw, kcI cI 2179 fw)] H ∧ va_D A [(h, oX11 th aw ai ab ac hi re aP ta po en be de fa a5 sp av an ak ne aW aC ag aT aN aF), (aw, kcI cI 2179 fw)] ∧ va_S A s.heap H locs ∧ lv_has ls 3 [(2, .int y375), (1, .int y376), (0, .ref h)]) ((0 : Int32), (0 : Int32)) ⟨rfl, (rg_w (rg_lit (n := 0) (by decide)) (by decide)), (rg_w (rg_lit (n := 0) (by decide)) (by decide)), hP.sub (ws' := [(h, oX11 th aw ai ab ac hi re aP ta po en be de fa a5 sp av an ak ne aW aC ag aT aN aF), (aw, kcI cI 2179 fw)]) [0, 1] rfl, hD.sub (ws' := [(h, oX11 th aw ai ab ac hi re aP ta po en be de fa a5 sp av an ak ne aW aC ag aT aN aF), (aw, kcI cI 2179 fw)]) [0, 1] (by decide) rfl, hS, lv_sub (l' := [(2, .int 0), (1, .int 0), (0, .ref h)]) hl [0, 1, 2] rfl⟩ (fun u H locs ls hI ih377 => ?_)
  clear hP hD hS hl
  obtain ⟨y375, y376⟩ := u
  obtain ⟨hF1, hy375, hy376, hP, hD, hS, hl⟩ := hI
  have hP : va_P D vwCl [(h, oX11 th aw ai ab ac hi re aP ta po en be de fa a5 sp av an ak ne aW aC ag aT aN aF), (aw, kcI cI 2179 fw)] H := hP
  have hD : va_D A [(h, oX11 th aw ai ab ac hi re aP ta po en be de fa a5 sp av an ak ne aW aC ag aT aN aF), (aw, kcI cI 2179 fw)] := hD
  have hl : lv_has ls 3 [(2, .int y375), (1, .int y376), (0, .ref h)] := hl
  refine lv_iload_n hx hb dX11_chest_4 rfl (lv_at hl 0 rfl) ?_
  refine lv_aload_n hx hb dX11_chest_5 rfl (lv_at hl 2 rfl) ?_
  refine kpurei (wc := [(h, oX11 th aw ai ab ac hi re aP ta po en be de fa a5 sp av an ak ne aW aC ag aT aN aF), (aw, kcI cI 2179 fw)]) hP hD hS hA [0, 1] rfl (by decide) (fun hPc hDc hFc => va_runV (As := []) (rest := [.int y375]) ⟨hx, hb, hml, hown, hts⟩ (r_shirts l D cI cJ cB cC h th aw ai ab ac hi re aP ta po en be de fa a5 sp av an ak ne aW aC ag aT aN aF fw H.size H_fw_W) (cwV 0 hts gX11_chest_X11_shirts rfl rfl rfl ⟨rfl, hdX11_shirts⟩ ⟨Nat.le_of_ble_eq_true rfl, Nat.le_of_ble_eq_true rfl⟩) ⟨kBlind, va_recv hK hPc (ci := 10) (q0 := 0) rfl rfl, fun U hU hW => ⟨rfl, by rw [hU], hN.warm hW, hE.pass hS hFc hW hU, by rw [hU]; exact hPc, va_K.moved hW.alike hK, hDc⟩⟩ rfl rfl hl.1 rfl (lv_room (Nat.le_of_ble_eq_true rfl)) dX11_chest_6 ⟨Nat.le_of_ble_eq_true rfl, Nat.le_of_ble_eq_true rfl⟩) (fun r378 u H locs hw hP hS => ?_)
  obtain ⟨k379, k380, k381⟩ := hw
  refine lv_icmp_ge (tgt := 37) hx hb dX11_chest_9 (by decide) (fun c382 => ?_) (fun c382 => ?_)
  · skip
    refine lv_iload_n hx hb dX11_chest_37 rfl (lv_at hl 1 rfl) ?_
    have hP9 := hP.sub (ws' := [(h, oX11 th aw ai ab ac hi re aP ta po en be de fa a5 sp av an ak ne aW aC ag aT aN aF), (aw, kcI cI 2179 fw)]) [0, 1] rfl
    have hD9 := hD.sub (ws' := [(h, oX11 th aw ai ab ac hi re aP ta po en be de fa a5 sp av an ak ne aW aC ag aT aN aF), (aw, kcI cI 2179 fw)]) [0, 1] (by decide) rfl
    exact W.iret (v := y376) hx hb hr (fun t ht hW => ⟨⟨y376, (), rfl, ⟨hy376, (hF1.trans (kIter_out (kC_eq rfl (kLet_eq (k381).symm (kif_t (leI c382) rfl)))))⟩, by rw [ht]; exact hP9, va_K.moved hW.alike hK, hD9⟩, hS.F ht⟩) hS.2.2 dX11_chest_38
  · skip
    have k383 : Rg y375 0 11 := rg_l1 (nleI c382) hy375 k380 (by decide)
    have k384 : Rg r378 1 12 := rg_l2 (nleI c382) hy375 k380 (by decide)
    refine lv_iload_n hx hb dX11_chest_12 rfl (lv_at hl 1 rfl) ?_
    refine lv_aload_n hx hb dX11_chest_13 rfl (lv_at hl 2 rfl) ?_
    refine lv_iload_n hx hb dX11_chest_14 rfl (lv_at hl 0 rfl) ?_
    refine lv_iconst (v := 5) hx hb dX11_chest_15 (by decide) ?_
    refine kpurei (wc := [(h, oX11 th aw ai ab ac hi re aP ta po en be de fa a5 sp av an ak ne aW aC ag aT aN aF), (aw, kcI cI 2179 fw)]) hP hD hS hA [0, 1] rfl (by decide) (fun hPc hDc hFc => va_runV (As := [.int y375, .int 5]) (rest := [.int y376]) ⟨hx, hb, hml, hown, hts⟩ (r_of5 l D cI cJ cB cC h th aw ai ab ac hi re aP ta po en be de fa a5 sp av an ak ne aW aC ag aT aN aF fw y375 H.size k383 H_fw_W) (cwV 2 hts gX11_chest_X11_of rfl rfl rfl ⟨rfl, hdX11_of⟩ ⟨Nat.le_of_ble_eq_true rfl, Nat.le_of_ble_eq_true rfl⟩) ⟨kBlind, va_recv hK hPc (ci := 10) (q0 := 0) rfl rfl, fun U hU hW => ⟨rfl, by rw [hU], hN.warm hW, hE.pass hS hFc hW hU, by rw [hU]; exact hPc, va_K.moved hW.alike hK, hDc⟩⟩ rfl rfl hl.1 rfl (lv_room (Nat.le_of_ble_eq_true rfl)) dX11_chest_16 ⟨Nat.le_of_ble_eq_true rfl, Nat.le_of_ble_eq_true rfl⟩) (fun r385 u H locs hw hP hS => ?_)
    obtain ⟨k386, k387, k388⟩ := hw
    refine k_join (hd := 29) (cells2 := 0) (slots2 := 0) (fun (u : Int32 × Int32) => match u with | (z396, z397) => [.int z396, .int z397]) (fun (u : Int32 × Int32) (H : Heap) (locs : List Loc) (ls : Array Slot) => match u with | (z396, z397) => (F_r_chest_l1_s (gT fw) (y375.toInt, y376.toInt) = F_r_chest_j2 y375.toInt z396.toInt z397.toInt) ∧ Rg z396 0 2048 ∧ Rg z397 0 4095 ∧ va_P D vwCl [(h, oX11 th aw ai ab ac hi re aP ta po en be de fa a5 sp av an ak ne aW aC ag aT aN aF), (aw, kcI cI 2179 fw)] H ∧ va_D A [(h, oX11 th aw ai ab ac hi re aP ta po en be de fa a5 sp av an ak ne aW aC ag aT aN aF), (aw, kcI cI 2179 fw)] ∧ va_S A s.heap H locs ∧ lv_has ls 3 [(2, .int y375), (1, .int y376), (0, .ref h)]) (fun u H locs ls hI => ?_) (fun hJ29 => ?_)
    · skip
      clear hP hD hS hl
      obtain ⟨z396, z397⟩ := u
      obtain ⟨hF2, hz396, hz397, hP, hD, hS, hl⟩ := hI
      have hP : va_P D vwCl [(h, oX11 th aw ai ab ac hi re aP ta po en be de fa a5 sp av an ak ne aW aC ag aT aN aF), (aw, kcI cI 2179 fw)] H := hP
      have hD : va_D A [(h, oX11 th aw ai ab ac hi re aP ta po en be de fa a5 sp av an ak ne aW aC ag aT aN aF), (aw, kcI cI 2179 fw)] := hD
      have hl : lv_has ls 3 [(2, .int y375), (1, .int y376), (0, .ref h)] := hl
      show W _ _ _ _ _ _ _ _ _ _ _ _ _ _ _ (F0 m 29 ls [.int z396, .int z397])
      refine lv_ior hx hb dX11_chest_29 ?_
      refine lv_topi (fun x398 ex398 => ?_)
      have k399 : Rg x398 0 4095 := rg_or 12 ex398 hz397 hz396 (by decide)
      refine lv_istore_n (lv' := [(1, .int x398), (2, .int y375), (0, .ref h)]) hx hb dX11_chest_30 rfl hl (by decide) rfl (fun ls hl => ?_)
      obtain ⟨x400, ex400⟩ : ∃ y : Int32, y = y375 + 1 := ⟨_, rfl⟩
      refine lv_iinc (v := x400) (lv' := [(2, .int x400), (1, .int x398), (0, .ref h)]) hx hb dX11_chest_31 hl (k := 1) rfl (by rw [ex400]; rfl) (by decide) rfl (fun ls hl => ?_)
      have k401 : Rg x400 1 12 := rg_add ex400 k383 (rg_lit (n := 1) (by decide)) (by decide)
      refine lv_goto (tgt := 4) hx hb dX11_chest_34 (by decide) ?_
      exact ih377 (x400, x398) _ _ _ (by show (12 - (x400).toInt).toNat < (12 - (y375).toInt).toNat; exact mu_up ex400 k383 k401 (by decide)) ⟨(hF1.trans (kIter_go (hF2.trans (kLet_eq (ke_or ex398) (kLet_eq (ti_add ex400 k383 (rg_lit (n := 1) (by decide)) (by decide) rfl rfl) rfl))))), (rg_w k401 (by decide)), k399, hP.sub (ws' := [(h, oX11 th aw ai ab ac hi re aP ta po en be de fa a5 sp av an ak ne aW aC ag aT aN aF), (aw, kcI cI 2179 fw)]) [0, 1] rfl, hD.sub (ws' := [(h, oX11 th aw ai ab ac hi re aP ta po en be de fa a5 sp av an ak ne aW aC ag aT aN aF), (aw, kcI cI 2179 fw)]) [0, 1] (by decide) rfl, hS, lv_sub (l' := [(2, .int x400), (1, .int x398), (0, .ref h)]) hl [0, 1, 2] rfl⟩
    refine lv_if_ge (tgt := 28) hx hb dX11_chest_19 (by decide) (fun c402 => ?_) (fun c402 => ?_)
    · skip
      have k403 : Rg r385 0 9 := rg_e2 (leI c402) (rg_lit (n := 0) (by decide)) k387 (by decide)
      refine lv_iconst (v := 0) hx hb dX11_chest_28 (by decide) ?_
      exact hJ29 ((0 : Int32), y376) _ _ _ ⟨(kC_eq rfl (kLet_eq (k381).symm (kif_f (xF_le c382) (kLet_eq (k388).symm (kif_t (leI c402) rfl))))), (rg_w (rg_lit (n := 0) (by decide)) (by decide)), hy376, hP.sub (ws' := [(h, oX11 th aw ai ab ac hi re aP ta po en be de fa a5 sp av an ak ne aW aC ag aT aN aF), (aw, kcI cI 2179 fw)]) [0, 1] rfl, hD.sub (ws' := [(h, oX11 th aw ai ab ac hi re aP ta po en be de fa a5 sp av an ak ne aW aC ag aT aN aF), (aw, kcI cI 2179 fw)]) [0, 1] (by decide) rfl, hS, lv_sub (l' := [(2, .int y375), (1, .int y376), (0, .ref h)]) hl [0, 1, 2] rfl⟩
    · skip
      have k404 : Rg r385 (-1) (-1) := rg_l1 (nleI c402) k387 (rg_lit (n := 0) (by decide)) (by decide)
      refine lv_iconst (v := 1) hx hb dX11_chest_22 (by decide) ?_
      refine lv_iload_n hx hb dX11_chest_23 rfl (lv_at hl 0 rfl) ?_
      refine lv_ishl hx hb dX11_chest_24 ?_
      refine lv_topi (fun x405 ex405 => ?_)
      have k406 : Rg x405 1 2048 := rg_shl1 11 ex405 k383 (by decide)
      refine lv_goto (tgt := 29) hx hb dX11_chest_25 (by decide) ?_
      exact hJ29 (x405, y376) _ _ _ ⟨(kC_eq rfl (kLet_eq (k381).symm (kif_f (xF_le c382) (kLet_eq (k388).symm (kif_f (xF_le c402) (kLet_eq (ke_shl ex405) rfl)))))), (rg_w k406 (by decide)), hy376, hP.sub (ws' := [(h, oX11 th aw ai ab ac hi re aP ta po en be de fa a5 sp av an ak ne aW aC ag aT aN aF), (aw, kcI cI 2179 fw)]) [0, 1] rfl, hD.sub (ws' := [(h, oX11 th aw ai ab ac hi re aP ta po en be de fa a5 sp av an ak ne aW aC ag aT aN aF), (aw, kcI cI 2179 fw)]) [0, 1] (by decide) rfl, hS, lv_sub (l' := [(2, .int y375), (1, .int y376), (0, .ref h)]) hl [0, 1, 2] rfl⟩

def kwX11_linesFor : List Cond := .code yX11_linesFor cX11_linesFor 9 (some .int) :: kG
theorem hdX11_linesFor : yX11_linesFor.cls ≠ "java/lang/invoke/MethodHandle" ∧ yX11_linesFor.cls ≠ "java/lang/invoke/VarHandle" ∧ (parseMethodDescriptor yX11_linesFor.desc).map (fun d => d.parameters.length) = some 2 := by decide +kernel
theorem gX11_linesFor_X11_has : GoodIn kG (va_wsS RX11 310 yX11_has kwX11_has) := gK w37_11 (gK w37_12 (gK w0_5 (gK w37_13 gGG)))
theorem gX11_linesFor_X11_of : GoodIn kG (wsV RX11 156 RX11 yX11_of kwX11_of) := gK w21_9 (gK w21_10 (gK w21_11 (gK w0_5 (gK w21_12 gGG))))
theorem gX11_linesFor_X11_shirts : GoodIn kG (wsV RX11 79 RX11 yX11_shirts kwX11_shirts) := gK w20_17 (gK w20_18 (gK w20_19 (gK w0_5 (gK w20_20 gGG))))
theorem dX11_linesFor_0 : decode cX11_linesFor 0 = .ok (.aload_n 0, 1) := by decide +kernel
theorem dX11_linesFor_1 : decode cX11_linesFor 1 = .ok (.getfield 61, 3) := by decide +kernel
theorem dX11_linesFor_4 : decode cX11_linesFor 4 = .ok (.iconst 0, 1) := by decide +kernel
theorem dX11_linesFor_5 : decode cX11_linesFor 5 = .ok (.iconst 0, 1) := by decide +kernel
theorem dX11_linesFor_6 : decode cX11_linesFor 6 = .ok (.iastore, 1) := by decide +kernel
theorem dX11_linesFor_7 : decode cX11_linesFor 7 = .ok (.iconst 1, 1) := by decide +kernel
theorem dX11_linesFor_8 : decode cX11_linesFor 8 = .ok (.istore_n 3, 1) := by decide +kernel
theorem dX11_linesFor_9 : decode cX11_linesFor 9 = .ok (.iload_n 3, 1) := by decide +kernel
theorem dX11_linesFor_10 : decode cX11_linesFor 10 = .ok (.iload_n 1, 1) := by decide +kernel
theorem dX11_linesFor_11 : decode cX11_linesFor 11 = .ok (.if_icmp .gt 154, 3) := by decide +kernel
theorem dX11_linesFor_14 : decode cX11_linesFor 14 = .ok (.iload_n 3, 1) := by decide +kernel
theorem dX11_linesFor_15 : decode cX11_linesFor 15 = .ok (.iload_n 1, 1) := by decide +kernel
theorem dX11_linesFor_16 : decode cX11_linesFor 16 = .ok (.iconst (-1), 1) := by decide +kernel
theorem dX11_linesFor_17 : decode cX11_linesFor 17 = .ok (.ixor, 1) := by decide +kernel
theorem dX11_linesFor_18 : decode cX11_linesFor 18 = .ok (.iand, 1) := by decide +kernel
theorem dX11_linesFor_19 : decode cX11_linesFor 19 = .ok (.ifCond .eq 6, 3) := by decide +kernel
theorem dX11_linesFor_22 : decode cX11_linesFor 22 = .ok (.goto 137, 3) := by decide +kernel
theorem dX11_linesFor_25 : decode cX11_linesFor 25 = .ok (.aload_n 0, 1) := by decide +kernel
theorem dX11_linesFor_26 : decode cX11_linesFor 26 = .ok (.getfield 61, 3) := by decide +kernel
theorem dX11_linesFor_29 : decode cX11_linesFor 29 = .ok (.iload_n 3, 1) := by decide +kernel
theorem dX11_linesFor_30 : decode cX11_linesFor 30 = .ok (.ldc_w 334, 3) := by decide +kernel
theorem dX11_linesFor_33 : decode cX11_linesFor 33 = .ok (.iastore, 1) := by decide +kernel
theorem dX11_linesFor_34 : decode cX11_linesFor 34 = .ok (.iconst 0, 1) := by decide +kernel
theorem dX11_linesFor_35 : decode cX11_linesFor 35 = .ok (.istore 4, 2) := by decide +kernel
theorem dX11_linesFor_37 : decode cX11_linesFor 37 = .ok (.iload 4, 2) := by decide +kernel
theorem dX11_linesFor_39 : decode cX11_linesFor 39 = .ok (.aload_n 0, 1) := by decide +kernel
theorem dX11_linesFor_40 : decode cX11_linesFor 40 = .ok (.invokevirtual 79, 3) := by decide +kernel
theorem dX11_linesFor_43 : decode cX11_linesFor 43 = .ok (.if_icmp .ge 116, 3) := by decide +kernel
theorem dX11_linesFor_46 : decode cX11_linesFor 46 = .ok (.iload_n 3, 1) := by decide +kernel
theorem dX11_linesFor_47 : decode cX11_linesFor 47 = .ok (.iload 4, 2) := by decide +kernel
theorem dX11_linesFor_49 : decode cX11_linesFor 49 = .ok (.invokestatic 310, 3) := by decide +kernel
theorem dX11_linesFor_52 : decode cX11_linesFor 52 = .ok (.ifCond .ne 6, 3) := by decide +kernel
theorem dX11_linesFor_55 : decode cX11_linesFor 55 = .ok (.goto 98, 3) := by decide +kernel
theorem dX11_linesFor_58 : decode cX11_linesFor 58 = .ok (.aload_n 0, 1) := by decide +kernel
theorem dX11_linesFor_59 : decode cX11_linesFor 59 = .ok (.getfield 61, 3) := by decide +kernel
theorem dX11_linesFor_62 : decode cX11_linesFor 62 = .ok (.iload_n 3, 1) := by decide +kernel
theorem dX11_linesFor_63 : decode cX11_linesFor 63 = .ok (.iconst 1, 1) := by decide +kernel
theorem dX11_linesFor_64 : decode cX11_linesFor 64 = .ok (.iload 4, 2) := by decide +kernel
theorem dX11_linesFor_66 : decode cX11_linesFor 66 = .ok (.ishl, 1) := by decide +kernel
theorem dX11_linesFor_67 : decode cX11_linesFor 67 = .ok (.iconst (-1), 1) := by decide +kernel
theorem dX11_linesFor_68 : decode cX11_linesFor 68 = .ok (.ixor, 1) := by decide +kernel
theorem dX11_linesFor_69 : decode cX11_linesFor 69 = .ok (.iand, 1) := by decide +kernel
theorem dX11_linesFor_70 : decode cX11_linesFor 70 = .ok (.iaload, 1) := by decide +kernel
theorem dX11_linesFor_71 : decode cX11_linesFor 71 = .ok (.istore 5, 2) := by decide +kernel
theorem dX11_linesFor_73 : decode cX11_linesFor 73 = .ok (.iconst 1, 1) := by decide +kernel
theorem dX11_linesFor_74 : decode cX11_linesFor 74 = .ok (.aload_n 0, 1) := by decide +kernel
theorem dX11_linesFor_75 : decode cX11_linesFor 75 = .ok (.iload 4, 2) := by decide +kernel
theorem dX11_linesFor_77 : decode cX11_linesFor 77 = .ok (.iconst 3, 1) := by decide +kernel
theorem dX11_linesFor_78 : decode cX11_linesFor 78 = .ok (.invokevirtual 156, 3) := by decide +kernel
theorem dX11_linesFor_81 : decode cX11_linesFor 81 = .ok (.iadd, 1) := by decide +kernel
theorem dX11_linesFor_82 : decode cX11_linesFor 82 = .ok (.istore 6, 2) := by decide +kernel
theorem dX11_linesFor_84 : decode cX11_linesFor 84 = .ok (.iload 5, 2) := by decide +kernel
theorem dX11_linesFor_86 : decode cX11_linesFor 86 = .ok (.bipush 100, 2) := by decide +kernel
theorem dX11_linesFor_88 : decode cX11_linesFor 88 = .ok (.irem, 1) := by decide +kernel
theorem dX11_linesFor_89 : decode cX11_linesFor 89 = .ok (.istore 7, 2) := by decide +kernel
theorem dX11_linesFor_91 : decode cX11_linesFor 91 = .ok (.iload 5, 2) := by decide +kernel
theorem dX11_linesFor_93 : decode cX11_linesFor 93 = .ok (.ifCond .le 16, 3) := by decide +kernel
theorem dX11_linesFor_96 : decode cX11_linesFor 96 = .ok (.iload 7, 2) := by decide +kernel
theorem dX11_linesFor_98 : decode cX11_linesFor 98 = .ok (.iload 6, 2) := by decide +kernel
theorem dX11_linesFor_100 : decode cX11_linesFor 100 = .ok (.iadd, 1) := by decide +kernel
theorem dX11_linesFor_101 : decode cX11_linesFor 101 = .ok (.iload_n 2, 1) := by decide +kernel
theorem dX11_linesFor_102 : decode cX11_linesFor 102 = .ok (.if_icmp .gt 7, 3) := by decide +kernel
theorem dX11_linesFor_105 : decode cX11_linesFor 105 = .ok (.iconst 1, 1) := by decide +kernel
theorem dX11_linesFor_106 : decode cX11_linesFor 106 = .ok (.goto 4, 3) := by decide +kernel
theorem dX11_linesFor_109 : decode cX11_linesFor 109 = .ok (.iconst 0, 1) := by decide +kernel
theorem dX11_linesFor_110 : decode cX11_linesFor 110 = .ok (.istore 8, 2) := by decide +kernel
theorem dX11_linesFor_112 : decode cX11_linesFor 112 = .ok (.aload_n 0, 1) := by decide +kernel
theorem dX11_linesFor_113 : decode cX11_linesFor 113 = .ok (.getfield 61, 3) := by decide +kernel
theorem dX11_linesFor_116 : decode cX11_linesFor 116 = .ok (.iload_n 3, 1) := by decide +kernel
theorem dX11_linesFor_117 : decode cX11_linesFor 117 = .ok (.aload_n 0, 1) := by decide +kernel
theorem dX11_linesFor_118 : decode cX11_linesFor 118 = .ok (.getfield 61, 3) := by decide +kernel
theorem dX11_linesFor_121 : decode cX11_linesFor 121 = .ok (.iload_n 3, 1) := by decide +kernel
theorem dX11_linesFor_122 : decode cX11_linesFor 122 = .ok (.iaload, 1) := by decide +kernel
theorem dX11_linesFor_123 : decode cX11_linesFor 123 = .ok (.iload 8, 2) := by decide +kernel
theorem dX11_linesFor_125 : decode cX11_linesFor 125 = .ok (.ifCond .eq 11, 3) := by decide +kernel
theorem dX11_linesFor_128 : decode cX11_linesFor 128 = .ok (.iload 5, 2) := by decide +kernel
theorem dX11_linesFor_130 : decode cX11_linesFor 130 = .ok (.iload 6, 2) := by decide +kernel
theorem dX11_linesFor_132 : decode cX11_linesFor 132 = .ok (.iadd, 1) := by decide +kernel
theorem dX11_linesFor_133 : decode cX11_linesFor 133 = .ok (.goto 16, 3) := by decide +kernel
theorem dX11_linesFor_136 : decode cX11_linesFor 136 = .ok (.bipush 100, 2) := by decide +kernel
theorem dX11_linesFor_138 : decode cX11_linesFor 138 = .ok (.iload 5, 2) := by decide +kernel
theorem dX11_linesFor_140 : decode cX11_linesFor 140 = .ok (.bipush 100, 2) := by decide +kernel
theorem dX11_linesFor_142 : decode cX11_linesFor 142 = .ok (.idiv, 1) := by decide +kernel
theorem dX11_linesFor_143 : decode cX11_linesFor 143 = .ok (.iconst 1, 1) := by decide +kernel
theorem dX11_linesFor_144 : decode cX11_linesFor 144 = .ok (.iadd, 1) := by decide +kernel
theorem dX11_linesFor_145 : decode cX11_linesFor 145 = .ok (.imul, 1) := by decide +kernel
theorem dX11_linesFor_146 : decode cX11_linesFor 146 = .ok (.iload 6, 2) := by decide +kernel
theorem dX11_linesFor_148 : decode cX11_linesFor 148 = .ok (.iadd, 1) := by decide +kernel
theorem dX11_linesFor_149 : decode cX11_linesFor 149 = .ok (.invokestatic 292, 3) := by decide +kernel
theorem dX11_linesFor_152 : decode cX11_linesFor 152 = .ok (.iastore, 1) := by decide +kernel
theorem dX11_linesFor_153 : decode cX11_linesFor 153 = .ok (.iinc 4 1, 3) := by decide +kernel
theorem dX11_linesFor_156 : decode cX11_linesFor 156 = .ok (.goto (-119), 3) := by decide +kernel
theorem dX11_linesFor_159 : decode cX11_linesFor 159 = .ok (.iinc 3 1, 3) := by decide +kernel
theorem dX11_linesFor_162 : decode cX11_linesFor 162 = .ok (.goto (-153), 3) := by decide +kernel
theorem dX11_linesFor_165 : decode cX11_linesFor 165 = .ok (.aload_n 0, 1) := by decide +kernel
theorem dX11_linesFor_166 : decode cX11_linesFor 166 = .ok (.getfield 61, 3) := by decide +kernel
theorem dX11_linesFor_169 : decode cX11_linesFor 169 = .ok (.iload_n 1, 1) := by decide +kernel
theorem dX11_linesFor_170 : decode cX11_linesFor 170 = .ok (.iaload, 1) := by decide +kernel
theorem dX11_linesFor_171 : decode cX11_linesFor 171 = .ok (.bipush 100, 2) := by decide +kernel
theorem dX11_linesFor_173 : decode cX11_linesFor 173 = .ok (.idiv, 1) := by decide +kernel
theorem dX11_linesFor_174 : decode cX11_linesFor 174 = .ok (.ireturn, 1) := by decide +kernel
set_option maxHeartbeats 4000000 in
set_option maxRecDepth 100000 in
/-- reference: linesFor -/
theorem r_linesFor (l : Launch) (D : va_G) (cI cJ cB cC : ClassId) (h : Nat) (th : Int32) (aw : Nat) (ai : Nat) (ab : Nat) (ac : Nat) (hi : Int32) (re : Int32) (aP : Nat) (ta : Int32) (po : Int32) (en : Int32) (be : Int32) (de : Int32) (fa : Int32) (a5 : Nat) (sp : Int32) (av : Nat) (an : Nat) (ak : Nat) (ne : Int32) (aW : Nat) (aC : Nat) (ag : Nat) (aT : Nat) (aN : Nat) (aF : Nat) (fw : Nat → Int32) (fF : Nat → Int32) (mm : Int32) (b : Int32) (sz : Nat) (H_mm : Rg mm 0 4095) (H_fw_W : wW fw) : Met l yX11_linesFor kwX11_linesFor ({ frames := 1, cells := 0, slots := 0, locals := 22 } : Room) (kPre D (kT cI cJ cB cC) sz [(h, oX11 th aw ai ab ac hi re aP ta po en be de fa a5 sp av an ak ne aW aC ag aT aN aF), (aw, kcI cI 2179 fw), (aF, kcI cI 4096 fF)] [.ref h, .int mm, .int b]) (va_Qi (fun (r : Int32) (f0_ : (Nat → Int32)) => F_r_linesFor (gT fw) (gT fF) (mm : Int32).toInt (b : Int32).toInt = ((r : Int32).toInt, (gT f0_))) (fun (f0_ : (Nat → Int32)) (t : State) => kB D (kT cI cJ cB cC) (va_A [(h, oX11 th aw ai ab ac hi re aP ta po en be de fa a5 sp av an ak ne aW aC ag aT aN aF), (aw, kcI cI 2179 fw), (aF, kcI cI 4096 fF)] sz) [(h, oX11 th aw ai ab ac hi re aP ta po en be de fa a5 sp av an ak ne aW aC ag aT aN aF), (aw, kcI cI 2179 fw), (aF, kcI cI 4096 f0_)] t) (va_A [(h, oX11 th aw ai ab ac hi re aP ta po en be de fa a5 sp av an ak ne aW aC ag aT aN aF), (aw, kcI cI 2179 fw), (aF, kcI cI 4096 fF)] sz)) 0 0 (va_A [(h, oX11 th aw ai ab ac hi re aP ta po en be de fa a5 sp av an ak ne aW aC ag aT aN aF), (aw, kcI cI 2179 fw), (aF, kcI cI 4096 fF)] sz) := by
  refine Met.ofW (cc := cX11_linesFor) (maxL := 9) (ret := (some .int)) (by decide) rfl ?_
  intro p e s m args below meth c s₁ B hml hv
  obtain ⟨rfl, hsz, hN, hE, hP, hK, hD0⟩ := hv
  have hx := B.exec
  have hb := B.bytes
  have hr := B.returns
  have hts := fun (w : Cond) (h : w ∈ kG) => atoms_spec (ws := kwX11_linesFor) B.pre w (List.mem_cons_of_mem _ h)
  have hown : s.vm.findClass RX11 = some m.cls := findClass_of_methodNamed B.named
  subst hsz
  have hD := hD0.self (sz := s.heap.size)
  generalize hAe : va_A [(h, oX11 th aw ai ab ac hi re aP ta po en be de fa a5 sp av an ak ne aW aC ag aT aN aF), (aw, kcI cI 2179 fw), (aF, kcI cI 4096 fF)] s.heap.size = A at hD hE ⊢
  have hA : ∀ q : Nat, s.heap.size ≤ q → A q := fun q h => by rw [← hAe]; exact Or.inr h
  have hl := lv_entry ([.ref h, .int mm, .int b]) (n := 9) (Nat.le_of_ble_eq_true rfl)
  rw [lg_entry_eq]
  generalize (lg_sl ([.ref h, .int mm, .int b]) ++ List.replicate (9 - (lg_sl ([.ref h, .int mm, .int b])).length) Slot.unset).toArray = ls at hl ⊢
  have hl : lv_has ls 9 [(0, .ref h), (1, .int mm), (2, .int b)] := hl
  obtain ⟨H, hH0⟩ : ∃ H, H = s.heap := ⟨_, rfl⟩
  have hS : va_S A s.heap H [] := by rw [hH0]; exact va_S.rf
  have hP : va_P D vwCl [(h, oX11 th aw ai ab ac hi re aP ta po en be de fa a5 sp av an ak ne aW aC ag aT aN aF), (aw, kcI cI 2179 fw), (aF, kcI cI 4096 fF)] H := by rw [hH0]; exact hP
  refine kHeap hH0 ?_
  clear hH0
  refine lv_aload_n hx hb dX11_linesFor_0 rfl (lv_at hl 0 rfl) ?_
  refine va_get (D := D) (ci := 10) (v := .ref aF) (C := RX11) (T := TX11) (N := 26) hx hb hts iG_X11 hown hK hP 0 rfl rfl 25 (by decide) (hts _ w5_19) (fun _ h9 => h9) rfl dX11_linesFor_1 ?_
  refine lv_iconst (v := 0) hx hb dX11_linesFor_4 (by decide) ?_
  refine lv_iconst (v := 0) hx hb dX11_linesFor_5 (by decide) ?_
  refine va_iast hx hb hK hP hD hS 2 0 rfl rfl (rg_in (rg_lit (n := 0) (by decide)) (by decide)) dX11_linesFor_6 (fun H locs hP hD hS => ?_)
  have hP : va_P D vwCl [(h, oX11 th aw ai ab ac hi re aP ta po en be de fa a5 sp av an ak ne aW aC ag aT aN aF), (aw, kcI cI 2179 fw), (aF, kcI cI 4096 (upd fF (0 : Int32).toNatClampNeg 0))] H := hP
  have hD : va_D A [(h, oX11 th aw ai ab ac hi re aP ta po en be de fa a5 sp av an ak ne aW aC ag aT aN aF), (aw, kcI cI 2179 fw), (aF, kcI cI 4096 (upd fF (0 : Int32).toNatClampNeg 0))] := hD
  generalize hg1 : (upd fF (0 : Int32).toNatClampNeg 0) = g1 at hP hD
  refine lv_iconst (v := 1) hx hb dX11_linesFor_7 (by decide) ?_
  refine lv_istore_n (lv' := [(3, .int 1), (0, .ref h), (1, .int mm), (2, .int b)]) hx hb dX11_linesFor_8 rfl hl (by decide) rfl (fun ls hl => ?_)
  refine k_loop (hd := 9) (fun (u : Int32 × (Nat → Int32)) => match u with | (y13452, g13453) => (4096 - (y13452).toInt).toNat) (fun (u : Int32 × (Nat → Int32)) (H : Heap) (locs : List Loc) (ls : Array Slot) => match u with | (y13452, g13453) => (F_r_linesFor (gT fw) (gT fF) mm.toInt b.toInt = F_r_linesFor_l1 (gT fw) mm.toInt b.toInt (y13452.toInt, (gT g13453))) ∧ Rg y13452 1 4096 ∧ va_P D vwCl [(h, oX11 th aw ai ab ac hi re aP ta po en be de fa a5 sp av an ak ne aW aC ag aT aN aF), (aw, kcI cI 2179 fw), (aF, kcI cI 4096 g13453)] H ∧ va_D A [(h, oX11 th aw ai ab ac hi re aP ta po en be de fa a5 sp av an ak ne aW aC ag aT aN aF), (aw, kcI cI 2179 fw), (aF, kcI cI 4096 g13453)] ∧ va_S A s.heap H locs ∧ lv_has ls 9 [(3, .int y13452), (0, .ref h), (1, .int mm), (2, .int b)]) ((1 : Int32), g1) ⟨(kLet_eq (ke_st hg1) rfl), (rg_w (rg_lit (n := 1) (by decide)) (by decide)), hP.sub (ws' := [(h, oX11 th aw ai ab ac hi re aP ta po en be de fa a5 sp av an ak ne aW aC ag aT aN aF), (aw, kcI cI 2179 fw), (aF, kcI cI 4096 g1)]) [0, 1, 2] rfl, hD.sub (ws' := [(h, oX11 th aw ai ab ac hi re aP ta po en be de fa a5 sp av an ak ne aW aC ag aT aN aF), (aw, kcI cI 2179 fw), (aF, kcI cI 4096 g1)]) [0, 1, 2] (by decide) rfl, hS, lv_sub (l' := [(3, .int 1), (0, .ref h), (1, .int mm), (2, .int b)]) hl [0, 1, 2, 3] rfl⟩ (fun u H locs ls hI ih13454 => ?_)
  clear hP hD hS hl
  obtain ⟨y13452, g13453⟩ := u
  obtain ⟨hF1, hy13452, hP, hD, hS, hl⟩ := hI
  have hP : va_P D vwCl [(h, oX11 th aw ai ab ac hi re aP ta po en be de fa a5 sp av an ak ne aW aC ag aT aN aF), (aw, kcI cI 2179 fw), (aF, kcI cI 4096 g13453)] H := hP
  have hD : va_D A [(h, oX11 th aw ai ab ac hi re aP ta po en be de fa a5 sp av an ak ne aW aC ag aT aN aF), (aw, kcI cI 2179 fw), (aF, kcI cI 4096 g13453)] := hD
  have hl : lv_has ls 9 [(3, .int y13452), (0, .ref h), (1, .int mm), (2, .int b)] := hl
  refine lv_iload_n hx hb dX11_linesFor_9 rfl (lv_at hl 0 rfl) ?_
  refine lv_iload_n hx hb dX11_linesFor_10 rfl (lv_at hl 2 rfl) ?_
  refine lv_icmp_gt (tgt := 165) hx hb dX11_linesFor_11 (by decide) (fun c13455 => ?_) (fun c13455 => ?_)
  · skip
    refine lv_aload_n hx hb dX11_linesFor_165 rfl (lv_at hl 1 rfl) ?_
    refine va_get (D := D) (ci := 10) (v := .ref aF) (C := RX11) (T := TX11) (N := 26) hx hb hts iG_X11 hown hK hP 0 rfl rfl 25 (by decide) (hts _ w5_19) (fun _ h9 => h9) rfl dX11_linesFor_166 ?_
    refine lv_iload_n hx hb dX11_linesFor_169 rfl (lv_at hl 2 rfl) ?_
    refine va_iald hx hb hK hP 2 0 rfl rfl (rg_in H_mm (by decide)) dX11_linesFor_170 ?_
    refine lv_topi (fun x13456 ex13456 => ?_)
    refine lv_bipush (v := 100) hx hb dX11_linesFor_171 (by decide) ?_
    refine lv_idiv hx hb dX11_linesFor_173 (by decide) ?_
    refine lv_topi (fun x13457 ex13457 => ?_)
    have hP9 := hP.sub (ws' := [(h, oX11 th aw ai ab ac hi re aP ta po en be de fa a5 sp av an ak ne aW aC ag aT aN aF), (aw, kcI cI 2179 fw), (aF, kcI cI 4096 g13453)]) [0, 1, 2] rfl
    have hD9 := hD.sub (ws' := [(h, oX11 th aw ai ab ac hi re aP ta po en be de fa a5 sp av an ak ne aW aC ag aT aN aF), (aw, kcI cI 2179 fw), (aF, kcI cI 4096 g13453)]) [0, 1, 2] (by decide) rfl
    exact W.iret (v := x13457) hx hb hr (fun t ht hW => ⟨⟨x13457, (g13453), rfl, (hF1.trans (kIter_out (kC_eq rfl (kif_t (ltI c13455) (kLet_eq (ke_ld ex13456) (kLet_eq (ke_div ex13457) rfl)))))), by rw [ht]; exact hP9, va_K.moved hW.alike hK, hD9⟩, hS.F ht⟩) hS.2.2 dX11_linesFor_174
  · skip
    have k13458 : Rg y13452 1 4095 := rg_e1 (nltI c13455) hy13452 H_mm (by decide)
    have k13459 : Rg mm 1 4095 := rg_e2 (nltI c13455) hy13452 H_mm (by decide)
    refine lv_iload_n hx hb dX11_linesFor_14 rfl (lv_at hl 0 rfl) ?_
    refine lv_iload_n hx hb dX11_linesFor_15 rfl (lv_at hl 2 rfl) ?_
    refine lv_iconst (v := (-1)) hx hb dX11_linesFor_16 (by decide) ?_
    refine lv_ixor hx hb dX11_linesFor_17 ?_
    refine lv_topi (fun x13460 ex13460 => ?_)
    refine lv_iand hx hb dX11_linesFor_18 ?_
    refine lv_topi (fun x13461 ex13461 => ?_)
    have k13462 : Rg x13461 0 4095 := rg_andl ex13461 k13458 (by decide)
    refine k_join (hd := 159) (cells2 := 0) (slots2 := 0) (fun (g14294 : (Nat → Int32)) => []) (fun (g14294 : (Nat → Int32)) (H : Heap) (locs : List Loc) (ls : Array Slot) => (F_r_linesFor_l1_s (gT fw) mm.toInt b.toInt (y13452.toInt, (gT g13453)) = F_r_linesFor_j2 y13452.toInt (gT g14294)) ∧ va_P D vwCl [(h, oX11 th aw ai ab ac hi re aP ta po en be de fa a5 sp av an ak ne aW aC ag aT aN aF), (aw, kcI cI 2179 fw), (aF, kcI cI 4096 g14294)] H ∧ va_D A [(h, oX11 th aw ai ab ac hi re aP ta po en be de fa a5 sp av an ak ne aW aC ag aT aN aF), (aw, kcI cI 2179 fw), (aF, kcI cI 4096 g14294)] ∧ va_S A s.heap H locs ∧ lv_has ls 9 [(3, .int y13452), (0, .ref h), (1, .int mm), (2, .int b)]) (fun u H locs ls hI => ?_) (fun hJ159 => ?_)
    · skip
      clear hP hD hS hl
      obtain ⟨g14294, rfl⟩ : ∃ z, z = u := ⟨_, rfl⟩
      obtain ⟨hF2, hP, hD, hS, hl⟩ := hI
      have hP : va_P D vwCl [(h, oX11 th aw ai ab ac hi re aP ta po en be de fa a5 sp av an ak ne aW aC ag aT aN aF), (aw, kcI cI 2179 fw), (aF, kcI cI 4096 g14294)] H := hP
      have hD : va_D A [(h, oX11 th aw ai ab ac hi re aP ta po en be de fa a5 sp av an ak ne aW aC ag aT aN aF), (aw, kcI cI 2179 fw), (aF, kcI cI 4096 g14294)] := hD
      have hl : lv_has ls 9 [(3, .int y13452), (0, .ref h), (1, .int mm), (2, .int b)] := hl
      obtain ⟨x14295, ex14295⟩ : ∃ y : Int32, y = y13452 + 1 := ⟨_, rfl⟩
      refine lv_iinc (v := x14295) (lv' := [(3, .int x14295), (0, .ref h), (1, .int mm), (2, .int b)]) hx hb dX11_linesFor_159 hl (k := 0) rfl (by rw [ex14295]; rfl) (by decide) rfl (fun ls hl => ?_)
      have k14296 : Rg x14295 2 4096 := rg_add ex14295 k13458 (rg_lit (n := 1) (by decide)) (by decide)
      refine lv_goto (tgt := 9) hx hb dX11_linesFor_162 (by decide) ?_
      exact ih13454 (x14295, g14294) _ _ _ (by show (4096 - (x14295).toInt).toNat < (4096 - (y13452).toInt).toNat; exact mu_up ex14295 k13458 k14296 (by decide)) ⟨(hF1.trans (kIter_go (hF2.trans (kLet_eq (ti_add ex14295 k13458 (rg_lit (n := 1) (by decide)) (by decide) rfl rfl) rfl)))), (rg_w k14296 (by decide)), hP.sub (ws' := [(h, oX11 th aw ai ab ac hi re aP ta po en be de fa a5 sp av an ak ne aW aC ag aT aN aF), (aw, kcI cI 2179 fw), (aF, kcI cI 4096 g14294)]) [0, 1, 2] rfl, hD.sub (ws' := [(h, oX11 th aw ai ab ac hi re aP ta po en be de fa a5 sp av an ak ne aW aC ag aT aN aF), (aw, kcI cI 2179 fw), (aF, kcI cI 4096 g14294)]) [0, 1, 2] (by decide) rfl, hS, lv_sub (l' := [(3, .int x14295), (0, .ref h), (1, .int mm), (2, .int b)]) hl [0, 1, 2, 3] rfl⟩
    refine lv_if_eq (tgt := 25) hx hb dX11_linesFor_19 (by decide) (fun c14297 => ?_) (fun c14297 => ?_)
    · skip
      have k14298 : Rg x13461 0 0 := rg_q1 (eqI c14297) k13462 (rg_lit (n := 0) (by decide)) (by decide)
      refine lv_aload_n hx hb dX11_linesFor_25 rfl (lv_at hl 1 rfl) ?_
      refine va_get (D := D) (ci := 10) (v := .ref aF) (C := RX11) (T := TX11) (N := 26) hx hb hts iG_X11 hown hK hP 0 rfl rfl 25 (by decide) (hts _ w5_19) (fun _ h9 => h9) rfl dX11_linesFor_26 ?_
      refine lv_iload_n hx hb dX11_linesFor_29 rfl (lv_at hl 0 rfl) ?_
      refine lv_ldcw (v := 1000000) hx hb hown (hts _ w42_16) dX11_linesFor_30 ?_
      refine va_iast hx hb hK hP hD hS 2 0 rfl rfl (rg_in k13458 (by decide)) dX11_linesFor_33 (fun H locs hP hD hS => ?_)
      have hP : va_P D vwCl [(h, oX11 th aw ai ab ac hi re aP ta po en be de fa a5 sp av an ak ne aW aC ag aT aN aF), (aw, kcI cI 2179 fw), (aF, kcI cI 4096 (upd g13453 y13452.toNatClampNeg 1000000))] H := hP
      have hD : va_D A [(h, oX11 th aw ai ab ac hi re aP ta po en be de fa a5 sp av an ak ne aW aC ag aT aN aF), (aw, kcI cI 2179 fw), (aF, kcI cI 4096 (upd g13453 y13452.toNatClampNeg 1000000))] := hD
      generalize hg14299 : (upd g13453 y13452.toNatClampNeg 1000000) = g14299 at hP hD
      refine lv_iconst (v := 0) hx hb dX11_linesFor_34 (by decide) ?_
      refine lv_istore (lv' := [(4, .int 0), (3, .int y13452), (0, .ref h), (1, .int mm), (2, .int b)]) hx hb dX11_linesFor_35 hl (by decide) rfl (fun ls hl => ?_)
      refine k_loop (hd := 37) (fun (u : Int32 × (Nat → Int32)) => match u with | (y15077, g15078) => (12 - (y15077).toInt).toNat) (fun (u : Int32 × (Nat → Int32)) (H : Heap) (locs : List Loc) (ls : Array Slot) => match u with | (y15077, g15078) => (F_r_linesFor_l1_s (gT fw) mm.toInt b.toInt (y13452.toInt, (gT g13453)) = F_r_linesFor_l3 (gT fw) b.toInt y13452.toInt (y15077.toInt, (gT g15078))) ∧ Rg y15077 0 12 ∧ va_P D vwCl [(h, oX11 th aw ai ab ac hi re aP ta po en be de fa a5 sp av an ak ne aW aC ag aT aN aF), (aw, kcI cI 2179 fw), (aF, kcI cI 4096 g15078)] H ∧ va_D A [(h, oX11 th aw ai ab ac hi re aP ta po en be de fa a5 sp av an ak ne aW aC ag aT aN aF), (aw, kcI cI 2179 fw), (aF, kcI cI 4096 g15078)] ∧ va_S A s.heap H locs ∧ lv_has ls 9 [(4, .int y15077), (3, .int y13452), (0, .ref h), (1, .int mm), (2, .int b)]) ((0 : Int32), g14299) ⟨(kC_eq rfl (kif_f (xF_lt c13455) (kLet_eq (ke_xor ex13460) (kLet_eq (ke_and ex13461) (kif_t (eqI c14297) (kLet_eq (ke_st hg14299) rfl)))))), (rg_w (rg_lit (n := 0) (by decide)) (by decide)), hP.sub (ws' := [(h, oX11 th aw ai ab ac hi re aP ta po en be de fa a5 sp av an ak ne aW aC ag aT aN aF), (aw, kcI cI 2179 fw), (aF, kcI cI 4096 g14299)]) [0, 1, 2] rfl, hD.sub (ws' := [(h, oX11 th aw ai ab ac hi re aP ta po en be de fa a5 sp av an ak ne aW aC ag aT aN aF), (aw, kcI cI 2179 fw), (aF, kcI cI 4096 g14299)]) [0, 1, 2] (by decide) rfl, hS, lv_sub (l' := [(4, .int 0), (3, .int y13452), (0, .ref h), (1, .int mm), (2, .int b)]) hl [0, 1, 2, 3, 4] rfl⟩ (fun u H locs ls hI ih15079 => ?_)
      clear hP hD hS hl
      obtain ⟨y15077, g15078⟩ := u
      obtain ⟨hF3, hy15077, hP, hD, hS, hl⟩ := hI
      have hP : va_P D vwCl [(h, oX11 th aw ai ab ac hi re aP ta po en be de fa a5 sp av an ak ne aW aC ag aT aN aF), (aw, kcI cI 2179 fw), (aF, kcI cI 4096 g15078)] H := hP
      have hD : va_D A [(h, oX11 th aw ai ab ac hi re aP ta po en be de fa a5 sp av an ak ne aW aC ag aT aN aF), (aw, kcI cI 2179 fw), (aF, kcI cI 4096 g15078)] := hD
      have hl : lv_has ls 9 [(4, .int y15077), (3, .int y13452), (0, .ref h), (1, .int mm), (2, .int b)] := hl
      refine lv_iload hx hb dX11_linesFor_37 (lv_at hl 0 rfl) ?_
      refine lv_aload_n hx hb dX11_linesFor_39 rfl (lv_at hl 2 rfl) ?_
      refine kpurei (wc := [(h, oX11 th aw ai ab ac hi re aP ta po en be de fa a5 sp av an ak ne aW aC ag aT aN aF), (aw, kcI cI 2179 fw)]) hP hD hS hA [0, 1] rfl (by decide) (fun hPc hDc hFc => va_runV (As := []) (rest := [.int y15077]) ⟨hx, hb, hml, hown, hts⟩ (r_shirts l D cI cJ cB cC h th aw ai ab ac hi re aP ta po en be de fa a5 sp av an ak ne aW aC ag aT aN aF fw H.size H_fw_W) (cwV 0 hts gX11_linesFor_X11_shirts rfl rfl rfl ⟨rfl, hdX11_shirts⟩ ⟨Nat.le_of_ble_eq_true rfl, Nat.le_of_ble_eq_true rfl⟩) ⟨kBlind, va_recv hK hPc (ci := 10) (q0 := 0) rfl rfl, fun U hU hW => ⟨rfl, by rw [hU], hN.warm hW, hE.pass hS hFc hW hU, by rw [hU]; exact hPc, va_K.moved hW.alike hK, hDc⟩⟩ rfl rfl hl.1 rfl (lv_room (Nat.le_of_ble_eq_true rfl)) dX11_linesFor_40 ⟨Nat.le_of_ble_eq_true rfl, Nat.le_of_ble_eq_true rfl⟩) (fun r15080 u H locs hw hP hS => ?_)
      obtain ⟨k15081, k15082, k15083⟩ := hw
      refine lv_icmp_ge (tgt := 159) hx hb dX11_linesFor_43 (by decide) (fun c15084 => ?_) (fun c15084 => ?_)
      · skip
        exact hJ159 (g15078) _ _ _ ⟨(hF3.trans (kIter_out (kC_eq rfl (kLet_eq (k15083).symm (kif_t (leI c15084) rfl))))), hP.sub (ws' := [(h, oX11 th aw ai ab ac hi re aP ta po en be de fa a5 sp av an ak ne aW aC ag aT aN aF), (aw, kcI cI 2179 fw), (aF, kcI cI 4096 g15078)]) [0, 1, 2] rfl, hD.sub (ws' := [(h, oX11 th aw ai ab ac hi re aP ta po en be de fa a5 sp av an ak ne aW aC ag aT aN aF), (aw, kcI cI 2179 fw), (aF, kcI cI 4096 g15078)]) [0, 1, 2] (by decide) rfl, hS, lv_sub (l' := [(3, .int y13452), (0, .ref h), (1, .int mm), (2, .int b)]) hl [1, 2, 3, 4] rfl⟩
      · skip
        have k15085 : Rg y15077 0 11 := rg_l1 (nleI c15084) hy15077 k15082 (by decide)
        have k15086 : Rg r15080 1 12 := rg_l2 (nleI c15084) hy15077 k15082 (by decide)
        refine lv_iload_n hx hb dX11_linesFor_46 rfl (lv_at hl 1 rfl) ?_
        refine lv_iload hx hb dX11_linesFor_47 (lv_at hl 0 rfl) ?_
        refine kpurei (wc := []) hP hD hS hA [] rfl (by decide) (fun hPc hDc hFc => va_runS (As := [.int y13452, .int y15077]) (rest := []) ⟨hx, hb, hml, hown, hts⟩ (r_has l D cI cJ cB cC y13452 y15077 H.size) (va_cwS 2 hts gX11_linesFor_X11_has rfl rfl rfl hdX11_has ⟨Nat.le_of_ble_eq_true rfl, Nat.le_of_ble_eq_true rfl⟩) ⟨kBlind, fun U hU hW => ⟨rfl, by rw [hU], hN.warm hW, hE.pass hS hFc hW hU, by rw [hU]; exact hPc, va_K.moved hW.alike hK, hDc⟩⟩ rfl rfl hl.1 rfl (lv_room (Nat.le_of_ble_eq_true rfl)) dX11_linesFor_49 ⟨Nat.le_of_ble_eq_true rfl, Nat.le_of_ble_eq_true rfl⟩) (fun r15087 u H locs hw hP hS => ?_)
        obtain ⟨k15088, k15089⟩ := hw
        refine k_join (hd := 153) (cells2 := 0) (slots2 := 0) (fun (g15125 : (Nat → Int32)) => []) (fun (g15125 : (Nat → Int32)) (H : Heap) (locs : List Loc) (ls : Array Slot) => (F_r_linesFor_l3_s (gT fw) b.toInt y13452.toInt (y15077.toInt, (gT g15078)) = F_r_linesFor_j4 y15077.toInt (gT g15125)) ∧ va_P D vwCl [(h, oX11 th aw ai ab ac hi re aP ta po en be de fa a5 sp av an ak ne aW aC ag aT aN aF), (aw, kcI cI 2179 fw), (aF, kcI cI 4096 g15125)] H ∧ va_D A [(h, oX11 th aw ai ab ac hi re aP ta po en be de fa a5 sp av an ak ne aW aC ag aT aN aF), (aw, kcI cI 2179 fw), (aF, kcI cI 4096 g15125)] ∧ va_S A s.heap H locs ∧ lv_has ls 9 [(4, .int y15077), (3, .int y13452), (0, .ref h), (1, .int mm), (2, .int b)]) (fun u H locs ls hI => ?_) (fun hJ153 => ?_)
        · skip
          clear hP hD hS hl
          obtain ⟨g15125, rfl⟩ : ∃ z, z = u := ⟨_, rfl⟩
          obtain ⟨hF4, hP, hD, hS, hl⟩ := hI
          have hP : va_P D vwCl [(h, oX11 th aw ai ab ac hi re aP ta po en be de fa a5 sp av an ak ne aW aC ag aT aN aF), (aw, kcI cI 2179 fw), (aF, kcI cI 4096 g15125)] H := hP
          have hD : va_D A [(h, oX11 th aw ai ab ac hi re aP ta po en be de fa a5 sp av an ak ne aW aC ag aT aN aF), (aw, kcI cI 2179 fw), (aF, kcI cI 4096 g15125)] := hD
          have hl : lv_has ls 9 [(4, .int y15077), (3, .int y13452), (0, .ref h), (1, .int mm), (2, .int b)] := hl
          obtain ⟨x15126, ex15126⟩ : ∃ y : Int32, y = y15077 + 1 := ⟨_, rfl⟩
          refine lv_iinc (v := x15126) (lv' := [(4, .int x15126), (3, .int y13452), (0, .ref h), (1, .int mm), (2, .int b)]) hx hb dX11_linesFor_153 hl (k := 0) rfl (by rw [ex15126]; rfl) (by decide) rfl (fun ls hl => ?_)
          have k15127 : Rg x15126 1 12 := rg_add ex15126 k15085 (rg_lit (n := 1) (by decide)) (by decide)
          refine lv_goto (tgt := 37) hx hb dX11_linesFor_156 (by decide) ?_
          exact ih15079 (x15126, g15125) _ _ _ (by show (12 - (x15126).toInt).toNat < (12 - (y15077).toInt).toNat; exact mu_up ex15126 k15085 k15127 (by decide)) ⟨(hF3.trans (kIter_go (hF4.trans (kLet_eq (ti_add ex15126 k15085 (rg_lit (n := 1) (by decide)) (by decide) rfl rfl) rfl)))), (rg_w k15127 (by decide)), hP.sub (ws' := [(h, oX11 th aw ai ab ac hi re aP ta po en be de fa a5 sp av an ak ne aW aC ag aT aN aF), (aw, kcI cI 2179 fw), (aF, kcI cI 4096 g15125)]) [0, 1, 2] rfl, hD.sub (ws' := [(h, oX11 th aw ai ab ac hi re aP ta po en be de fa a5 sp av an ak ne aW aC ag aT aN aF), (aw, kcI cI 2179 fw), (aF, kcI cI 4096 g15125)]) [0, 1, 2] (by decide) rfl, hS, lv_sub (l' := [(4, .int x15126), (3, .int y13452), (0, .ref h), (1, .int mm), (2, .int b)]) hl [0, 1, 2, 3, 4] rfl⟩
        refine lv_if_ne (tgt := 58) hx hb dX11_linesFor_52 (by decide) (fun c15128 => ?_) (fun c15128 => ?_)
        · skip
          have k15129 : Rg r15087 1 1 := rg_n1 (neI c15128) k15088 (rg_lit (n := 0) (by decide)) (by decide)
          refine lv_aload_n hx hb dX11_linesFor_58 rfl (lv_at hl 2 rfl) ?_
          refine va_get (D := D) (ci := 10) (v := .ref aF) (C := RX11) (T := TX11) (N := 26) hx hb hts iG_X11 hown hK hP 0 rfl rfl 25 (by decide) (hts _ w5_19) (fun _ h9 => h9) rfl dX11_linesFor_59 ?_
          refine lv_iload_n hx hb dX11_linesFor_62 rfl (lv_at hl 1 rfl) ?_
          refine lv_iconst (v := 1) hx hb dX11_linesFor_63 (by decide) ?_
          refine lv_iload hx hb dX11_linesFor_64 (lv_at hl 0 rfl) ?_
          refine lv_ishl hx hb dX11_linesFor_66 ?_
          refine lv_topi (fun x15130 ex15130 => ?_)
          have k15131 : Rg x15130 1 2048 := rg_shl1 11 ex15130 k15085 (by decide)
          refine lv_iconst (v := (-1)) hx hb dX11_linesFor_67 (by decide) ?_
          refine lv_ixor hx hb dX11_linesFor_68 ?_
          refine lv_topi (fun x15132 ex15132 => ?_)
          refine lv_iand hx hb dX11_linesFor_69 ?_
          refine lv_topi (fun x15133 ex15133 => ?_)
          have k15134 : Rg x15133 0 4095 := rg_andl ex15133 k13458 (by decide)
          refine va_iald hx hb hK hP 2 0 rfl rfl (rg_in k15134 (by decide)) dX11_linesFor_70 ?_
          refine lv_topi (fun x15135 ex15135 => ?_)
          refine lv_istore (lv' := [(5, .int x15135), (4, .int y15077), (3, .int y13452), (0, .ref h), (1, .int mm), (2, .int b)]) hx hb dX11_linesFor_71 hl (by decide) rfl (fun ls hl => ?_)
          refine lv_iconst (v := 1) hx hb dX11_linesFor_73 (by decide) ?_
          refine lv_aload_n hx hb dX11_linesFor_74 rfl (lv_at hl 3 rfl) ?_
          refine lv_iload hx hb dX11_linesFor_75 (lv_at hl 1 rfl) ?_
          refine lv_iconst (v := 3) hx hb dX11_linesFor_77 (by decide) ?_
          refine kpurei (wc := [(h, oX11 th aw ai ab ac hi re aP ta po en be de fa a5 sp av an ak ne aW aC ag aT aN aF), (aw, kcI cI 2179 fw)]) hP hD hS hA [0, 1] rfl (by decide) (fun hPc hDc hFc => va_runV (As := [.int y15077, .int 3]) (rest := [.int 1]) ⟨hx, hb, hml, hown, hts⟩ (r_of3 l D cI cJ cB cC h th aw ai ab ac hi re aP ta po en be de fa a5 sp av an ak ne aW aC ag aT aN aF fw y15077 H.size k15085 H_fw_W) (cwV 2 hts gX11_linesFor_X11_of rfl rfl rfl ⟨rfl, hdX11_of⟩ ⟨Nat.le_of_ble_eq_true rfl, Nat.le_of_ble_eq_true rfl⟩) ⟨kBlind, va_recv hK hPc (ci := 10) (q0 := 0) rfl rfl, fun U hU hW => ⟨rfl, by rw [hU], hN.warm hW, hE.pass hS hFc hW hU, by rw [hU]; exact hPc, va_K.moved hW.alike hK, hDc⟩⟩ rfl rfl hl.1 rfl (lv_room (Nat.le_of_ble_eq_true rfl)) dX11_linesFor_78 ⟨Nat.le_of_ble_eq_true rfl, Nat.le_of_ble_eq_true rfl⟩) (fun r15136 u H locs hw hP hS => ?_)
          obtain ⟨k15137, k15138⟩ := hw
          refine lv_iadd hx hb dX11_linesFor_81 ?_
          refine lv_topi (fun x15139 ex15139 => ?_)
          refine lv_istore (lv' := [(6, .int x15139), (5, .int x15135), (4, .int y15077), (3, .int y13452), (0, .ref h), (1, .int mm), (2, .int b)]) hx hb dX11_linesFor_82 hl (by decide) rfl (fun ls hl => ?_)
          refine lv_iload hx hb dX11_linesFor_84 (lv_at hl 1 rfl) ?_
          refine lv_bipush (v := 100) hx hb dX11_linesFor_86 (by decide) ?_
          refine lv_irem hx hb dX11_linesFor_88 (by decide) ?_
          refine lv_topi (fun x15140 ex15140 => ?_)
          refine lv_istore (lv' := [(7, .int x15140), (6, .int x15139), (5, .int x15135), (4, .int y15077), (3, .int y13452), (0, .ref h), (1, .int mm), (2, .int b)]) hx hb dX11_linesFor_89 hl (by decide) rfl (fun ls hl => ?_)
          refine lv_iload hx hb dX11_linesFor_91 (lv_at hl 2 rfl) ?_
          refine k_join (hd := 109) (cells2 := 0) (slots2 := 0) (fun (_ : Unit) => []) (fun (_ : Unit) (H : Heap) (locs : List Loc) (ls : Array Slot) => (F_r_linesFor_l3_s (gT fw) b.toInt y13452.toInt (y15077.toInt, (gT g15078)) = F_r_linesFor_j5 y13452.toInt y15077.toInt (gT g15078) x15135.toInt x15139.toInt) ∧ va_P D vwCl [(h, oX11 th aw ai ab ac hi re aP ta po en be de fa a5 sp av an ak ne aW aC ag aT aN aF), (aw, kcI cI 2179 fw), (aF, kcI cI 4096 g15078)] H ∧ va_D A [(h, oX11 th aw ai ab ac hi re aP ta po en be de fa a5 sp av an ak ne aW aC ag aT aN aF), (aw, kcI cI 2179 fw), (aF, kcI cI 4096 g15078)] ∧ va_S A s.heap H locs ∧ lv_has ls 9 [(7, .int x15140), (6, .int x15139), (5, .int x15135), (4, .int y15077), (3, .int y13452), (0, .ref h), (1, .int mm), (2, .int b)]) (fun u H locs ls hI => ?_) (fun hJ109 => ?_)
          · skip
            clear hP hD hS hl
            obtain ⟨hF5, hP, hD, hS, hl⟩ := hI
            have hP : va_P D vwCl [(h, oX11 th aw ai ab ac hi re aP ta po en be de fa a5 sp av an ak ne aW aC ag aT aN aF), (aw, kcI cI 2179 fw), (aF, kcI cI 4096 g15078)] H := hP
            have hD : va_D A [(h, oX11 th aw ai ab ac hi re aP ta po en be de fa a5 sp av an ak ne aW aC ag aT aN aF), (aw, kcI cI 2179 fw), (aF, kcI cI 4096 g15078)] := hD
            have hl : lv_has ls 9 [(7, .int x15140), (6, .int x15139), (5, .int x15135), (4, .int y15077), (3, .int y13452), (0, .ref h), (1, .int mm), (2, .int b)] := hl
            refine lv_iconst (v := 0) hx hb dX11_linesFor_109 (by decide) ?_
            refine lv_istore (lv' := [(8, .int 0), (7, .int x15140), (6, .int x15139), (5, .int x15135), (4, .int y15077), (3, .int y13452), (0, .ref h), (1, .int mm), (2, .int b)]) hx hb dX11_linesFor_110 hl (by decide) rfl (fun ls hl => ?_)
            refine lv_aload_n hx hb dX11_linesFor_112 rfl (lv_at hl 6 rfl) ?_
            refine va_get (D := D) (ci := 10) (v := .ref aF) (C := RX11) (T := TX11) (N := 26) hx hb hts iG_X11 hown hK hP 0 rfl rfl 25 (by decide) (hts _ w5_19) (fun _ h9 => h9) rfl dX11_linesFor_113 ?_
            refine lv_iload_n hx hb dX11_linesFor_116 rfl (lv_at hl 5 rfl) ?_
            refine lv_aload_n hx hb dX11_linesFor_117 rfl (lv_at hl 6 rfl) ?_
            refine va_get (D := D) (ci := 10) (v := .ref aF) (C := RX11) (T := TX11) (N := 26) hx hb hts iG_X11 hown hK hP 0 rfl rfl 25 (by decide) (hts _ w5_19) (fun _ h9 => h9) rfl dX11_linesFor_118 ?_
            refine lv_iload_n hx hb dX11_linesFor_121 rfl (lv_at hl 5 rfl) ?_
            refine va_iald hx hb hK hP 2 0 rfl rfl (rg_in k13458 (by decide)) dX11_linesFor_122 ?_
            refine lv_topi (fun x15148 ex15148 => ?_)
            refine lv_iload hx hb dX11_linesFor_123 (lv_at hl 0 rfl) ?_
            refine lv_if_eq (tgt := 136) hx hb dX11_linesFor_125 (by decide) (fun _ => ?_) (fun c15154 => absurd (by decide) c15154)
            refine lv_bipush (v := 100) hx hb dX11_linesFor_136 (by decide) ?_
            refine lv_iload hx hb dX11_linesFor_138 (lv_at hl 3 rfl) ?_
            refine lv_bipush (v := 100) hx hb dX11_linesFor_140 (by decide) ?_
            refine lv_idiv hx hb dX11_linesFor_142 (by decide) ?_
            refine lv_topi (fun x15155 ex15155 => ?_)
            refine lv_iconst (v := 1) hx hb dX11_linesFor_143 (by decide) ?_
            refine lv_iadd hx hb dX11_linesFor_144 ?_
            refine lv_topi (fun x15156 ex15156 => ?_)
            refine lv_imul hx hb dX11_linesFor_145 ?_
            refine lv_topi (fun x15157 ex15157 => ?_)
            refine lv_iload hx hb dX11_linesFor_146 (lv_at hl 2 rfl) ?_
            refine lv_iadd hx hb dX11_linesFor_148 ?_
            refine lv_topi (fun x15158 ex15158 => ?_)
            refine va_mmin hx hb (by rw [hml]; exact hl.1.symm) hown (hts _ w34_13) (hts _ w24_21) (hts _ w8_7) (hts _ w24_22) (Nat.le_of_ble_eq_true rfl) (Nat.le_of_ble_eq_true rfl) (Nat.le_of_ble_eq_true rfl) (Nat.le_of_ble_eq_true rfl) dX11_linesFor_149 ?_
            refine lv_topi (fun x15159 ex15159 => ?_)
            refine va_iast hx hb hK hP hD hS 2 0 rfl rfl (rg_in k13458 (by decide)) dX11_linesFor_152 (fun H locs hP hD hS => ?_)
            have hP : va_P D vwCl [(h, oX11 th aw ai ab ac hi re aP ta po en be de fa a5 sp av an ak ne aW aC ag aT aN aF), (aw, kcI cI 2179 fw), (aF, kcI cI 4096 (upd g15078 y13452.toNatClampNeg x15159))] H := hP
            have hD : va_D A [(h, oX11 th aw ai ab ac hi re aP ta po en be de fa a5 sp av an ak ne aW aC ag aT aN aF), (aw, kcI cI 2179 fw), (aF, kcI cI 4096 (upd g15078 y13452.toNatClampNeg x15159))] := hD
            generalize hg15160 : (upd g15078 y13452.toNatClampNeg x15159) = g15160 at hP hD
            exact hJ153 (g15160) _ _ _ ⟨(hF5.trans (kLet_eq (ke_ld ex15148) (kLet_eq (ke_div ex15155) (kLet_eq (ke_wadd ex15156) (kLet_eq (ke_wmul ex15157) (kLet_eq (ke_wadd ex15158) (kLet_eq (ke_min ex15159) (kLet_eq (ke_st hg15160) rfl)))))))), hP.sub (ws' := [(h, oX11 th aw ai ab ac hi re aP ta po en be de fa a5 sp av an ak ne aW aC ag aT aN aF), (aw, kcI cI 2179 fw), (aF, kcI cI 4096 g15160)]) [0, 1, 2] rfl, hD.sub (ws' := [(h, oX11 th aw ai ab ac hi re aP ta po en be de fa a5 sp av an ak ne aW aC ag aT aN aF), (aw, kcI cI 2179 fw), (aF, kcI cI 4096 g15160)]) [0, 1, 2] (by decide) rfl, hS, lv_sub (l' := [(4, .int y15077), (3, .int y13452), (0, .ref h), (1, .int mm), (2, .int b)]) hl [4, 5, 6, 7, 8] rfl⟩
          refine lv_if_le (tgt := 109) hx hb dX11_linesFor_93 (by decide) (fun c15161 => ?_) (fun c15161 => ?_)
          · skip
            have k15162 : Rg x15135 (-2147483648) 0 := rg_e1 (leI c15161) (rg_any x15135) (rg_lit (n := 0) (by decide)) (by decide)
            exact hJ109 () _ _ _ ⟨(kC_eq rfl (kLet_eq (k15083).symm (kif_f (xF_le c15084) (kLet_eq (k15089).symm (kif_f (neI c15128) (kLet_eq (ke_shl ex15130) (kLet_eq (ke_xor ex15132) (kLet_eq (ke_and ex15133) (kLet_eq (ke_ld ex15135) (kLet_eq (k15138).symm (kLet_eq (ke_wadd ex15139) (kLet_eq (ke_rem ex15140) (kif_t (leI c15161) rfl))))))))))))), hP.sub (ws' := [(h, oX11 th aw ai ab ac hi re aP ta po en be de fa a5 sp av an ak ne aW aC ag aT aN aF), (aw, kcI cI 2179 fw), (aF, kcI cI 4096 g15078)]) [0, 1, 2] rfl, hD.sub (ws' := [(h, oX11 th aw ai ab ac hi re aP ta po en be de fa a5 sp av an ak ne aW aC ag aT aN aF), (aw, kcI cI 2179 fw), (aF, kcI cI 4096 g15078)]) [0, 1, 2] (by decide) rfl, hS, lv_sub (l' := [(7, .int x15140), (6, .int x15139), (5, .int x15135), (4, .int y15077), (3, .int y13452), (0, .ref h), (1, .int mm), (2, .int b)]) hl [0, 1, 2, 3, 4, 5, 6, 7] rfl⟩
          · skip
            have k15163 : Rg x15135 1 2147483647 := rg_l2 (nleI c15161) (rg_lit (n := 0) (by decide)) (rg_any x15135) (by decide)
            refine lv_iload hx hb dX11_linesFor_96 (lv_at hl 0 rfl) ?_
            refine lv_iload hx hb dX11_linesFor_98 (lv_at hl 1 rfl) ?_
            refine lv_iadd hx hb dX11_linesFor_100 ?_
            refine lv_topi (fun x15164 ex15164 => ?_)
            refine lv_iload_n hx hb dX11_linesFor_101 rfl (lv_at hl 7 rfl) ?_
            refine lv_icmp_gt (tgt := 109) hx hb dX11_linesFor_102 (by decide) (fun c15165 => ?_) (fun c15165 => ?_)
            · skip
              have k15166 : Rg x15164 (-2147483647) 2147483647 := rg_l2 (ltI c15165) (rg_any b) (rg_any x15164) (by decide)
              have k15167 : Rg b (-2147483648) 2147483646 := rg_l1 (ltI c15165) (rg_any b) (rg_any x15164) (by decide)
              exact hJ109 () _ _ _ ⟨(kC_eq rfl (kLet_eq (k15083).symm (kif_f (xF_le c15084) (kLet_eq (k15089).symm (kif_f (neI c15128) (kLet_eq (ke_shl ex15130) (kLet_eq (ke_xor ex15132) (kLet_eq (ke_and ex15133) (kLet_eq (ke_ld ex15135) (kLet_eq (k15138).symm (kLet_eq (ke_wadd ex15139) (kLet_eq (ke_rem ex15140) (kif_f (xF_le c15161) (kLet_eq (ke_wadd ex15164) (kif_t (ltI c15165) rfl))))))))))))))), hP.sub (ws' := [(h, oX11 th aw ai ab ac hi re aP ta po en be de fa a5 sp av an ak ne aW aC ag aT aN aF), (aw, kcI cI 2179 fw), (aF, kcI cI 4096 g15078)]) [0, 1, 2] rfl, hD.sub (ws' := [(h, oX11 th aw ai ab ac hi re aP ta po en be de fa a5 sp av an ak ne aW aC ag aT aN aF), (aw, kcI cI 2179 fw), (aF, kcI cI 4096 g15078)]) [0, 1, 2] (by decide) rfl, hS, lv_sub (l' := [(7, .int x15140), (6, .int x15139), (5, .int x15135), (4, .int y15077), (3, .int y13452), (0, .ref h), (1, .int mm), (2, .int b)]) hl [0, 1, 2, 3, 4, 5, 6, 7] rfl⟩
            · skip
              refine lv_iconst (v := 1) hx hb dX11_linesFor_105 (by decide) ?_
              refine lv_goto (tgt := 110) hx hb dX11_linesFor_106 (by decide) ?_
              refine lv_istore (lv' := [(8, .int 1), (7, .int x15140), (6, .int x15139), (5, .int x15135), (4, .int y15077), (3, .int y13452), (0, .ref h), (1, .int mm), (2, .int b)]) hx hb dX11_linesFor_110 hl (by decide) rfl (fun ls hl => ?_)
              refine lv_aload_n hx hb dX11_linesFor_112 rfl (lv_at hl 6 rfl) ?_
              refine va_get (D := D) (ci := 10) (v := .ref aF) (C := RX11) (T := TX11) (N := 26) hx hb hts iG_X11 hown hK hP 0 rfl rfl 25 (by decide) (hts _ w5_19) (fun _ h9 => h9) rfl dX11_linesFor_113 ?_
              refine lv_iload_n hx hb dX11_linesFor_116 rfl (lv_at hl 5 rfl) ?_
              refine lv_aload_n hx hb dX11_linesFor_117 rfl (lv_at hl 6 rfl) ?_
              refine va_get (D := D) (ci := 10) (v := .ref aF) (C := RX11) (T := TX11) (N := 26) hx hb hts iG_X11 hown hK hP 0 rfl rfl 25 (by decide) (hts _ w5_19) (fun _ h9 => h9) rfl dX11_linesFor_118 ?_
              refine lv_iload_n hx hb dX11_linesFor_121 rfl (lv_at hl 5 rfl) ?_
              refine va_iald hx hb hK hP 2 0 rfl rfl (rg_in k13458 (by decide)) dX11_linesFor_122 ?_
              refine lv_topi (fun x15168 ex15168 => ?_)
              refine lv_iload hx hb dX11_linesFor_123 (lv_at hl 0 rfl) ?_
              refine lv_if_eq (tgt := 136) hx hb dX11_linesFor_125 (by decide) (fun c15171 => absurd c15171 (by decide)) (fun _ => ?_)
              refine lv_iload hx hb dX11_linesFor_128 (lv_at hl 3 rfl) ?_
              refine lv_iload hx hb dX11_linesFor_130 (lv_at hl 2 rfl) ?_
              refine lv_iadd hx hb dX11_linesFor_132 ?_
              refine lv_topi (fun x15172 ex15172 => ?_)
              refine lv_goto (tgt := 149) hx hb dX11_linesFor_133 (by decide) ?_
              refine va_mmin hx hb (by rw [hml]; exact hl.1.symm) hown (hts _ w34_13) (hts _ w24_21) (hts _ w8_7) (hts _ w24_22) (Nat.le_of_ble_eq_true rfl) (Nat.le_of_ble_eq_true rfl) (Nat.le_of_ble_eq_true rfl) (Nat.le_of_ble_eq_true rfl) dX11_linesFor_149 ?_
              refine lv_topi (fun x15173 ex15173 => ?_)
              refine va_iast hx hb hK hP hD hS 2 0 rfl rfl (rg_in k13458 (by decide)) dX11_linesFor_152 (fun H locs hP hD hS => ?_)
              have hP : va_P D vwCl [(h, oX11 th aw ai ab ac hi re aP ta po en be de fa a5 sp av an ak ne aW aC ag aT aN aF), (aw, kcI cI 2179 fw), (aF, kcI cI 4096 (upd g15078 y13452.toNatClampNeg x15173))] H := hP
              have hD : va_D A [(h, oX11 th aw ai ab ac hi re aP ta po en be de fa a5 sp av an ak ne aW aC ag aT aN aF), (aw, kcI cI 2179 fw), (aF, kcI cI 4096 (upd g15078 y13452.toNatClampNeg x15173))] := hD
              generalize hg15174 : (upd g15078 y13452.toNatClampNeg x15173) = g15174 at hP hD
              exact hJ153 (g15174) _ _ _ ⟨(kC_eq rfl (kLet_eq (k15083).symm (kif_f (xF_le c15084) (kLet_eq (k15089).symm (kif_f (neI c15128) (kLet_eq (ke_shl ex15130) (kLet_eq (ke_xor ex15132) (kLet_eq (ke_and ex15133) (kLet_eq (ke_ld ex15135) (kLet_eq (k15138).symm (kLet_eq (ke_wadd ex15139) (kLet_eq (ke_rem ex15140) (kif_f (xF_le c15161) (kLet_eq (ke_wadd ex15164) (kif_f (xF_lt c15165) (kLet_eq (ke_ld ex15168) (kLet_eq (ke_wadd ex15172) (kLet_eq (ke_min ex15173) (kLet_eq (ke_st hg15174) rfl))))))))))))))))))), hP.sub (ws' := [(h, oX11 th aw ai ab ac hi re aP ta po en be de fa a5 sp av an ak ne aW aC ag aT aN aF), (aw, kcI cI 2179 fw), (aF, kcI cI 4096 g15174)]) [0, 1, 2] rfl, hD.sub (ws' := [(h, oX11 th aw ai ab ac hi re aP ta po en be de fa a5 sp av an ak ne aW aC ag aT aN aF), (aw, kcI cI 2179 fw), (aF, kcI cI 4096 g15174)]) [0, 1, 2] (by decide) rfl, hS, lv_sub (l' := [(4, .int y15077), (3, .int y13452), (0, .ref h), (1, .int mm), (2, .int b)]) hl [4, 5, 6, 7, 8] rfl⟩
        · skip
          have k15175 : Rg r15087 0 0 := rg_q1 (eqI c15128) k15088 (rg_lit (n := 0) (by decide)) (by decide)
          refine lv_goto (tgt := 153) hx hb dX11_linesFor_55 (by decide) ?_
          exact hJ153 (g15078) _ _ _ ⟨(kC_eq rfl (kLet_eq (k15083).symm (kif_f (xF_le c15084) (kLet_eq (k15089).symm (kif_t (eqI c15128) rfl))))), hP.sub (ws' := [(h, oX11 th aw ai ab ac hi re aP ta po en be de fa a5 sp av an ak ne aW aC ag aT aN aF), (aw, kcI cI 2179 fw), (aF, kcI cI 4096 g15078)]) [0, 1, 2] rfl, hD.sub (ws' := [(h, oX11 th aw ai ab ac hi re aP ta po en be de fa a5 sp av an ak ne aW aC ag aT aN aF), (aw, kcI cI 2179 fw), (aF, kcI cI 4096 g15078)]) [0, 1, 2] (by decide) rfl, hS, lv_sub (l' := [(4, .int y15077), (3, .int y13452), (0, .ref h), (1, .int mm), (2, .int b)]) hl [0, 1, 2, 3, 4] rfl⟩
    · skip
      have k15176 : Rg x13461 1 4095 := rg_n1 (neI c14297) k13462 (rg_lit (n := 0) (by decide)) (by decide)
      refine lv_goto (tgt := 159) hx hb dX11_linesFor_22 (by decide) ?_
      exact hJ159 (g13453) _ _ _ ⟨(kC_eq rfl (kif_f (xF_lt c13455) (kLet_eq (ke_xor ex13460) (kLet_eq (ke_and ex13461) (kif_f (neI c14297) rfl))))), hP.sub (ws' := [(h, oX11 th aw ai ab ac hi re aP ta po en be de fa a5 sp av an ak ne aW aC ag aT aN aF), (aw, kcI cI 2179 fw), (aF, kcI cI 4096 g13453)]) [0, 1, 2] rfl, hD.sub (ws' := [(h, oX11 th aw ai ab ac hi re aP ta po en be de fa a5 sp av an ak ne aW aC ag aT aN aF), (aw, kcI cI 2179 fw), (aF, kcI cI 4096 g13453)]) [0, 1, 2] (by decide) rfl, hS, lv_sub (l' := [(3, .int y13452), (0, .ref h), (1, .int mm), (2, .int b)]) hl [0, 1, 2, 3] rfl⟩

