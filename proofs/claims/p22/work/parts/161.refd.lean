def kwX11_tornBy : List Cond := .code yX11_tornBy cX11_tornBy 9 (some .long) :: kG
theorem hdX11_tornBy : yX11_tornBy.cls ≠ "java/lang/invoke/MethodHandle" ∧ yX11_tornBy.cls ≠ "java/lang/invoke/VarHandle" ∧ (parseMethodDescriptor yX11_tornBy.desc).map (fun d => d.parameters.length) = some 3 := by decide +kernel
theorem gX11_tornBy_X11_isNeighbour : GoodIn kG (wsV RX11 267 RX11 yX11_isNeighbour kwX11_isNeighbour) := gK w27_11 (gK w27_12 (gK w27_13 (gK w0_5 (gK w27_14 gGG))))
theorem gX11_tornBy_X11_men : GoodIn kG (wsV RX11 71 RX11 yX11_men kwX11_men) := gK w19_17 (gK w19_18 (gK w19_19 (gK w0_5 (gK w19_20 gGG))))
theorem gX11_tornBy_X11_ofMan : GoodIn kG (wsV RX11 153 RX11 yX11_ofMan kwX11_ofMan) := gK w21_5 (gK w21_6 (gK w21_7 (gK w0_5 (gK w21_8 gGG))))
theorem dX11_tornBy_0 : decode cX11_tornBy 0 = .ok (.iload_n 1, 1) := by decide +kernel
theorem dX11_tornBy_1 : decode cX11_tornBy 1 = .ok (.bipush 54, 2) := by decide +kernel
theorem dX11_tornBy_3 : decode cX11_tornBy 3 = .ok (.if_icmp .le 5, 3) := by decide +kernel
theorem dX11_tornBy_6 : decode cX11_tornBy 6 = .ok (.lconst 0, 1) := by decide +kernel
theorem dX11_tornBy_7 : decode cX11_tornBy 7 = .ok (.lreturn, 1) := by decide +kernel
theorem dX11_tornBy_8 : decode cX11_tornBy 8 = .ok (.iconst 0, 1) := by decide +kernel
theorem dX11_tornBy_9 : decode cX11_tornBy 9 = .ok (.istore 4, 2) := by decide +kernel
theorem dX11_tornBy_11 : decode cX11_tornBy 11 = .ok (.iload 4, 2) := by decide +kernel
theorem dX11_tornBy_13 : decode cX11_tornBy 13 = .ok (.sipush 550, 3) := by decide +kernel
theorem dX11_tornBy_16 : decode cX11_tornBy 16 = .ok (.if_icmp .ge 17, 3) := by decide +kernel
theorem dX11_tornBy_19 : decode cX11_tornBy 19 = .ok (.aload_n 0, 1) := by decide +kernel
theorem dX11_tornBy_20 : decode cX11_tornBy 20 = .ok (.getfield 55, 3) := by decide +kernel
theorem dX11_tornBy_23 : decode cX11_tornBy 23 = .ok (.iload 4, 2) := by decide +kernel
theorem dX11_tornBy_25 : decode cX11_tornBy 25 = .ok (.lconst 0, 1) := by decide +kernel
theorem dX11_tornBy_26 : decode cX11_tornBy 26 = .ok (.lastore, 1) := by decide +kernel
theorem dX11_tornBy_27 : decode cX11_tornBy 27 = .ok (.iinc 4 1, 3) := by decide +kernel
theorem dX11_tornBy_30 : decode cX11_tornBy 30 = .ok (.goto (-19), 3) := by decide +kernel
theorem dX11_tornBy_33 : decode cX11_tornBy 33 = .ok (.iconst 0, 1) := by decide +kernel
theorem dX11_tornBy_34 : decode cX11_tornBy 34 = .ok (.istore 4, 2) := by decide +kernel
theorem dX11_tornBy_36 : decode cX11_tornBy 36 = .ok (.iload 4, 2) := by decide +kernel
theorem dX11_tornBy_38 : decode cX11_tornBy 38 = .ok (.aload_n 0, 1) := by decide +kernel
theorem dX11_tornBy_39 : decode cX11_tornBy 39 = .ok (.invokevirtual 71, 3) := by decide +kernel
theorem dX11_tornBy_42 : decode cX11_tornBy 42 = .ok (.if_icmp .ge 38, 3) := by decide +kernel
theorem dX11_tornBy_45 : decode cX11_tornBy 45 = .ok (.aload_n 0, 1) := by decide +kernel
theorem dX11_tornBy_46 : decode cX11_tornBy 46 = .ok (.getfield 55, 3) := by decide +kernel
theorem dX11_tornBy_49 : decode cX11_tornBy 49 = .ok (.bipush 55, 2) := by decide +kernel
theorem dX11_tornBy_51 : decode cX11_tornBy 51 = .ok (.iload 4, 2) := by decide +kernel
theorem dX11_tornBy_53 : decode cX11_tornBy 53 = .ok (.imul, 1) := by decide +kernel
theorem dX11_tornBy_54 : decode cX11_tornBy 54 = .ok (.aload_n 0, 1) := by decide +kernel
theorem dX11_tornBy_55 : decode cX11_tornBy 55 = .ok (.iload 4, 2) := by decide +kernel
theorem dX11_tornBy_57 : decode cX11_tornBy 57 = .ok (.iconst 2, 1) := by decide +kernel
theorem dX11_tornBy_58 : decode cX11_tornBy 58 = .ok (.invokevirtual 153, 3) := by decide +kernel
theorem dX11_tornBy_61 : decode cX11_tornBy 61 = .ok (.iadd, 1) := by decide +kernel
theorem dX11_tornBy_62 : decode cX11_tornBy 62 = .ok (.iload 4, 2) := by decide +kernel
theorem dX11_tornBy_64 : decode cX11_tornBy 64 = .ok (.iload_n 3, 1) := by decide +kernel
theorem dX11_tornBy_65 : decode cX11_tornBy 65 = .ok (.if_icmp .ne 7, 3) := by decide +kernel
theorem dX11_tornBy_68 : decode cX11_tornBy 68 = .ok (.lconst 0, 1) := by decide +kernel
theorem dX11_tornBy_69 : decode cX11_tornBy 69 = .ok (.goto 4, 3) := by decide +kernel
theorem dX11_tornBy_72 : decode cX11_tornBy 72 = .ok (.lconst 1, 1) := by decide +kernel
theorem dX11_tornBy_73 : decode cX11_tornBy 73 = .ok (.lastore, 1) := by decide +kernel
theorem dX11_tornBy_74 : decode cX11_tornBy 74 = .ok (.iinc 4 1, 3) := by decide +kernel
theorem dX11_tornBy_77 : decode cX11_tornBy 77 = .ok (.goto (-41), 3) := by decide +kernel
theorem dX11_tornBy_80 : decode cX11_tornBy 80 = .ok (.iconst 1, 1) := by decide +kernel
theorem dX11_tornBy_81 : decode cX11_tornBy 81 = .ok (.istore 4, 2) := by decide +kernel
theorem dX11_tornBy_83 : decode cX11_tornBy 83 = .ok (.iload 4, 2) := by decide +kernel
theorem dX11_tornBy_85 : decode cX11_tornBy 85 = .ok (.iload_n 2, 1) := by decide +kernel
theorem dX11_tornBy_86 : decode cX11_tornBy 86 = .ok (.if_icmp .ge 188, 3) := by decide +kernel
theorem dX11_tornBy_89 : decode cX11_tornBy 89 = .ok (.iconst 0, 1) := by decide +kernel
theorem dX11_tornBy_90 : decode cX11_tornBy 90 = .ok (.istore 5, 2) := by decide +kernel
theorem dX11_tornBy_92 : decode cX11_tornBy 92 = .ok (.iload 5, 2) := by decide +kernel
theorem dX11_tornBy_94 : decode cX11_tornBy 94 = .ok (.sipush 550, 3) := by decide +kernel
theorem dX11_tornBy_97 : decode cX11_tornBy 97 = .ok (.if_icmp .ge 17, 3) := by decide +kernel
theorem dX11_tornBy_100 : decode cX11_tornBy 100 = .ok (.aload_n 0, 1) := by decide +kernel
theorem dX11_tornBy_101 : decode cX11_tornBy 101 = .ok (.getfield 58, 3) := by decide +kernel
theorem dX11_tornBy_104 : decode cX11_tornBy 104 = .ok (.iload 5, 2) := by decide +kernel
theorem dX11_tornBy_106 : decode cX11_tornBy 106 = .ok (.lconst 0, 1) := by decide +kernel
theorem dX11_tornBy_107 : decode cX11_tornBy 107 = .ok (.lastore, 1) := by decide +kernel
theorem dX11_tornBy_108 : decode cX11_tornBy 108 = .ok (.iinc 5 1, 3) := by decide +kernel
theorem dX11_tornBy_111 : decode cX11_tornBy 111 = .ok (.goto (-19), 3) := by decide +kernel
theorem dX11_tornBy_114 : decode cX11_tornBy 114 = .ok (.iconst 0, 1) := by decide +kernel
theorem dX11_tornBy_115 : decode cX11_tornBy 115 = .ok (.istore 5, 2) := by decide +kernel
theorem dX11_tornBy_117 : decode cX11_tornBy 117 = .ok (.iload 5, 2) := by decide +kernel
theorem dX11_tornBy_119 : decode cX11_tornBy 119 = .ok (.aload_n 0, 1) := by decide +kernel
theorem dX11_tornBy_120 : decode cX11_tornBy 120 = .ok (.invokevirtual 71, 3) := by decide +kernel
theorem dX11_tornBy_123 : decode cX11_tornBy 123 = .ok (.if_icmp .ge 114, 3) := by decide +kernel
theorem dX11_tornBy_126 : decode cX11_tornBy 126 = .ok (.iconst 0, 1) := by decide +kernel
theorem dX11_tornBy_127 : decode cX11_tornBy 127 = .ok (.istore 6, 2) := by decide +kernel
theorem dX11_tornBy_129 : decode cX11_tornBy 129 = .ok (.iload 6, 2) := by decide +kernel
theorem dX11_tornBy_131 : decode cX11_tornBy 131 = .ok (.aload_n 0, 1) := by decide +kernel
theorem dX11_tornBy_132 : decode cX11_tornBy 132 = .ok (.invokevirtual 71, 3) := by decide +kernel
theorem dX11_tornBy_135 : decode cX11_tornBy 135 = .ok (.if_icmp .ge 96, 3) := by decide +kernel
theorem dX11_tornBy_138 : decode cX11_tornBy 138 = .ok (.iload 5, 2) := by decide +kernel
theorem dX11_tornBy_140 : decode cX11_tornBy 140 = .ok (.iload 6, 2) := by decide +kernel
theorem dX11_tornBy_142 : decode cX11_tornBy 142 = .ok (.if_icmp .eq 83, 3) := by decide +kernel
theorem dX11_tornBy_145 : decode cX11_tornBy 145 = .ok (.iload 6, 2) := by decide +kernel
theorem dX11_tornBy_147 : decode cX11_tornBy 147 = .ok (.iload_n 3, 1) := by decide +kernel
theorem dX11_tornBy_148 : decode cX11_tornBy 148 = .ok (.if_icmp .eq 77, 3) := by decide +kernel
theorem dX11_tornBy_151 : decode cX11_tornBy 151 = .ok (.aload_n 0, 1) := by decide +kernel
theorem dX11_tornBy_152 : decode cX11_tornBy 152 = .ok (.iload 5, 2) := by decide +kernel
theorem dX11_tornBy_154 : decode cX11_tornBy 154 = .ok (.iload 6, 2) := by decide +kernel
theorem dX11_tornBy_156 : decode cX11_tornBy 156 = .ok (.invokevirtual 267, 3) := by decide +kernel
theorem dX11_tornBy_159 : decode cX11_tornBy 159 = .ok (.ifCond .eq 6, 3) := by decide +kernel
theorem dX11_tornBy_162 : decode cX11_tornBy 162 = .ok (.goto 63, 3) := by decide +kernel
theorem dX11_tornBy_165 : decode cX11_tornBy 165 = .ok (.aload_n 0, 1) := by decide +kernel
theorem dX11_tornBy_166 : decode cX11_tornBy 166 = .ok (.iload 6, 2) := by decide +kernel
theorem dX11_tornBy_168 : decode cX11_tornBy 168 = .ok (.iconst 2, 1) := by decide +kernel
theorem dX11_tornBy_169 : decode cX11_tornBy 169 = .ok (.invokevirtual 153, 3) := by decide +kernel
theorem dX11_tornBy_172 : decode cX11_tornBy 172 = .ok (.istore 7, 2) := by decide +kernel
theorem dX11_tornBy_174 : decode cX11_tornBy 174 = .ok (.iconst 0, 1) := by decide +kernel
theorem dX11_tornBy_175 : decode cX11_tornBy 175 = .ok (.istore 8, 2) := by decide +kernel
theorem dX11_tornBy_177 : decode cX11_tornBy 177 = .ok (.iload 8, 2) := by decide +kernel
theorem dX11_tornBy_179 : decode cX11_tornBy 179 = .ok (.iload 7, 2) := by decide +kernel
theorem dX11_tornBy_181 : decode cX11_tornBy 181 = .ok (.iadd, 1) := by decide +kernel
theorem dX11_tornBy_182 : decode cX11_tornBy 182 = .ok (.bipush 54, 2) := by decide +kernel
theorem dX11_tornBy_184 : decode cX11_tornBy 184 = .ok (.if_icmp .gt 41, 3) := by decide +kernel
theorem dX11_tornBy_187 : decode cX11_tornBy 187 = .ok (.aload_n 0, 1) := by decide +kernel
theorem dX11_tornBy_188 : decode cX11_tornBy 188 = .ok (.getfield 58, 3) := by decide +kernel
theorem dX11_tornBy_191 : decode cX11_tornBy 191 = .ok (.bipush 55, 2) := by decide +kernel
theorem dX11_tornBy_193 : decode cX11_tornBy 193 = .ok (.iload 6, 2) := by decide +kernel
theorem dX11_tornBy_195 : decode cX11_tornBy 195 = .ok (.imul, 1) := by decide +kernel
theorem dX11_tornBy_196 : decode cX11_tornBy 196 = .ok (.iload 8, 2) := by decide +kernel
theorem dX11_tornBy_198 : decode cX11_tornBy 198 = .ok (.iadd, 1) := by decide +kernel
theorem dX11_tornBy_199 : decode cX11_tornBy 199 = .ok (.iload 7, 2) := by decide +kernel
theorem dX11_tornBy_201 : decode cX11_tornBy 201 = .ok (.iadd, 1) := by decide +kernel
theorem dX11_tornBy_202 : decode cX11_tornBy 202 = .ok (.dup2, 1) := by decide +kernel
theorem dX11_tornBy_203 : decode cX11_tornBy 203 = .ok (.laload, 1) := by decide +kernel
theorem dX11_tornBy_204 : decode cX11_tornBy 204 = .ok (.aload_n 0, 1) := by decide +kernel
theorem dX11_tornBy_205 : decode cX11_tornBy 205 = .ok (.getfield 55, 3) := by decide +kernel
theorem dX11_tornBy_208 : decode cX11_tornBy 208 = .ok (.bipush 55, 2) := by decide +kernel
theorem dX11_tornBy_210 : decode cX11_tornBy 210 = .ok (.iload 5, 2) := by decide +kernel
theorem dX11_tornBy_212 : decode cX11_tornBy 212 = .ok (.imul, 1) := by decide +kernel
theorem dX11_tornBy_213 : decode cX11_tornBy 213 = .ok (.iload 8, 2) := by decide +kernel
theorem dX11_tornBy_215 : decode cX11_tornBy 215 = .ok (.iadd, 1) := by decide +kernel
theorem dX11_tornBy_216 : decode cX11_tornBy 216 = .ok (.laload, 1) := by decide +kernel
theorem dX11_tornBy_217 : decode cX11_tornBy 217 = .ok (.ladd, 1) := by decide +kernel
theorem dX11_tornBy_218 : decode cX11_tornBy 218 = .ok (.lastore, 1) := by decide +kernel
theorem dX11_tornBy_219 : decode cX11_tornBy 219 = .ok (.iinc 8 1, 3) := by decide +kernel
theorem dX11_tornBy_222 : decode cX11_tornBy 222 = .ok (.goto (-45), 3) := by decide +kernel
theorem dX11_tornBy_225 : decode cX11_tornBy 225 = .ok (.iinc 6 1, 3) := by decide +kernel
theorem dX11_tornBy_228 : decode cX11_tornBy 228 = .ok (.goto (-99), 3) := by decide +kernel
theorem dX11_tornBy_231 : decode cX11_tornBy 231 = .ok (.iinc 5 1, 3) := by decide +kernel
theorem dX11_tornBy_234 : decode cX11_tornBy 234 = .ok (.goto (-117), 3) := by decide +kernel
theorem dX11_tornBy_237 : decode cX11_tornBy 237 = .ok (.iconst 0, 1) := by decide +kernel
theorem dX11_tornBy_238 : decode cX11_tornBy 238 = .ok (.istore 5, 2) := by decide +kernel
theorem dX11_tornBy_240 : decode cX11_tornBy 240 = .ok (.iload 5, 2) := by decide +kernel
theorem dX11_tornBy_242 : decode cX11_tornBy 242 = .ok (.sipush 550, 3) := by decide +kernel
theorem dX11_tornBy_245 : decode cX11_tornBy 245 = .ok (.if_icmp .ge 23, 3) := by decide +kernel
theorem dX11_tornBy_248 : decode cX11_tornBy 248 = .ok (.aload_n 0, 1) := by decide +kernel
theorem dX11_tornBy_249 : decode cX11_tornBy 249 = .ok (.getfield 55, 3) := by decide +kernel
theorem dX11_tornBy_252 : decode cX11_tornBy 252 = .ok (.iload 5, 2) := by decide +kernel
theorem dX11_tornBy_254 : decode cX11_tornBy 254 = .ok (.aload_n 0, 1) := by decide +kernel
theorem dX11_tornBy_255 : decode cX11_tornBy 255 = .ok (.getfield 58, 3) := by decide +kernel
theorem dX11_tornBy_258 : decode cX11_tornBy 258 = .ok (.iload 5, 2) := by decide +kernel
theorem dX11_tornBy_260 : decode cX11_tornBy 260 = .ok (.laload, 1) := by decide +kernel
theorem dX11_tornBy_261 : decode cX11_tornBy 261 = .ok (.lastore, 1) := by decide +kernel
theorem dX11_tornBy_262 : decode cX11_tornBy 262 = .ok (.iinc 5 1, 3) := by decide +kernel
theorem dX11_tornBy_265 : decode cX11_tornBy 265 = .ok (.goto (-25), 3) := by decide +kernel
theorem dX11_tornBy_268 : decode cX11_tornBy 268 = .ok (.iinc 4 1, 3) := by decide +kernel
theorem dX11_tornBy_271 : decode cX11_tornBy 271 = .ok (.goto (-188), 3) := by decide +kernel
theorem dX11_tornBy_274 : decode cX11_tornBy 274 = .ok (.lconst 0, 1) := by decide +kernel
theorem dX11_tornBy_275 : decode cX11_tornBy 275 = .ok (.lstore 4, 2) := by decide +kernel
theorem dX11_tornBy_277 : decode cX11_tornBy 277 = .ok (.iconst 0, 1) := by decide +kernel
theorem dX11_tornBy_278 : decode cX11_tornBy 278 = .ok (.istore 6, 2) := by decide +kernel
theorem dX11_tornBy_280 : decode cX11_tornBy 280 = .ok (.iload 6, 2) := by decide +kernel
theorem dX11_tornBy_282 : decode cX11_tornBy 282 = .ok (.aload_n 0, 1) := by decide +kernel
theorem dX11_tornBy_283 : decode cX11_tornBy 283 = .ok (.invokevirtual 71, 3) := by decide +kernel
theorem dX11_tornBy_286 : decode cX11_tornBy 286 = .ok (.if_icmp .ge 26, 3) := by decide +kernel
theorem dX11_tornBy_289 : decode cX11_tornBy 289 = .ok (.lload 4, 2) := by decide +kernel
theorem dX11_tornBy_291 : decode cX11_tornBy 291 = .ok (.aload_n 0, 1) := by decide +kernel
theorem dX11_tornBy_292 : decode cX11_tornBy 292 = .ok (.getfield 55, 3) := by decide +kernel
theorem dX11_tornBy_295 : decode cX11_tornBy 295 = .ok (.bipush 55, 2) := by decide +kernel
theorem dX11_tornBy_297 : decode cX11_tornBy 297 = .ok (.iload 6, 2) := by decide +kernel
theorem dX11_tornBy_299 : decode cX11_tornBy 299 = .ok (.imul, 1) := by decide +kernel
theorem dX11_tornBy_300 : decode cX11_tornBy 300 = .ok (.iload_n 1, 1) := by decide +kernel
theorem dX11_tornBy_301 : decode cX11_tornBy 301 = .ok (.iadd, 1) := by decide +kernel
theorem dX11_tornBy_302 : decode cX11_tornBy 302 = .ok (.laload, 1) := by decide +kernel
theorem dX11_tornBy_303 : decode cX11_tornBy 303 = .ok (.ladd, 1) := by decide +kernel
theorem dX11_tornBy_304 : decode cX11_tornBy 304 = .ok (.lstore 4, 2) := by decide +kernel
theorem dX11_tornBy_306 : decode cX11_tornBy 306 = .ok (.iinc 6 1, 3) := by decide +kernel
theorem dX11_tornBy_309 : decode cX11_tornBy 309 = .ok (.goto (-29), 3) := by decide +kernel
theorem dX11_tornBy_312 : decode cX11_tornBy 312 = .ok (.lload 4, 2) := by decide +kernel
theorem dX11_tornBy_314 : decode cX11_tornBy 314 = .ok (.lreturn, 1) := by decide +kernel
set_option maxHeartbeats 4000000 in
set_option maxRecDepth 100000 in
/-- reference: tornBy -/
theorem r_tornBy (l : Launch) (D : va_G) (cI cJ cB cC : ClassId) (h : Nat) (th : Int32) (aw : Nat) (ai : Nat) (ab : Nat) (ac : Nat) (hi : Int32) (re : Int32) (aP : Nat) (ta : Int32) (po : Int32) (en : Int32) (be : Int32) (de : Int32) (fa : Int32) (a5 : Nat) (sp : Int32) (av : Nat) (an : Nat) (ak : Nat) (ne : Int32) (aW : Nat) (aC : Nat) (ag : Nat) (aT : Nat) (aN : Nat) (aF : Nat) (fw : Nat → Int32) (fT : Nat → Int64) (fN : Nat → Int64) (a1 : Int32) (b1 : Int32) (vc : Int32) (sz : Nat) (H_a1 : Rg a1 0 2147483647) (H_fw_W : wW fw) : Met l yX11_tornBy kwX11_tornBy ({ frames := 2, cells := 0, slots := 0, locals := 44 } : Room) (kPre D (kT cI cJ cB cC) sz [(h, oX11 th aw ai ab ac hi re aP ta po en be de fa a5 sp av an ak ne aW aC ag aT aN aF), (aw, kcI cI 2179 fw), (aT, kcJ cJ 550 fT), (aN, kcJ cJ 550 fN)] [.ref h, .int a1, .int b1, .int vc]) (va_Ql (fun (r : Int64) (uu : (Nat → Int64) × (Nat → Int64)) => match uu with | (f0_, f1_) => F_r_tornBy (gT fw) fT fN (a1 : Int32).toInt (b1 : Int32).toInt (vc : Int32).toInt = (r, f0_, f1_)) (fun (uu : (Nat → Int64) × (Nat → Int64)) (t : State) => match uu with | (f0_, f1_) => kB D (kT cI cJ cB cC) (va_A [(h, oX11 th aw ai ab ac hi re aP ta po en be de fa a5 sp av an ak ne aW aC ag aT aN aF), (aw, kcI cI 2179 fw), (aT, kcJ cJ 550 fT), (aN, kcJ cJ 550 fN)] sz) [(h, oX11 th aw ai ab ac hi re aP ta po en be de fa a5 sp av an ak ne aW aC ag aT aN aF), (aw, kcI cI 2179 fw), (aT, kcJ cJ 550 f0_), (aN, kcJ cJ 550 f1_)] t) (va_A [(h, oX11 th aw ai ab ac hi re aP ta po en be de fa a5 sp av an ak ne aW aC ag aT aN aF), (aw, kcI cI 2179 fw), (aT, kcJ cJ 550 fT), (aN, kcJ cJ 550 fN)] sz)) 0 0 (va_A [(h, oX11 th aw ai ab ac hi re aP ta po en be de fa a5 sp av an ak ne aW aC ag aT aN aF), (aw, kcI cI 2179 fw), (aT, kcJ cJ 550 fT), (aN, kcJ cJ 550 fN)] sz) := by
  refine Met.ofW (cc := cX11_tornBy) (maxL := 9) (ret := (some .long)) (by decide) rfl ?_
  intro p e s m args below meth c s₁ B hml hv
  obtain ⟨rfl, hsz, hN, hE, hP, hK, hD0⟩ := hv
  have hx := B.exec
  have hb := B.bytes
  have hr := B.returns
  have hts := fun (w : Cond) (h : w ∈ kG) => atoms_spec (ws := kwX11_tornBy) B.pre w (List.mem_cons_of_mem _ h)
  have hown : s.vm.findClass RX11 = some m.cls := findClass_of_methodNamed B.named
  subst hsz
  have hD := hD0.self (sz := s.heap.size)
  generalize hAe : va_A [(h, oX11 th aw ai ab ac hi re aP ta po en be de fa a5 sp av an ak ne aW aC ag aT aN aF), (aw, kcI cI 2179 fw), (aT, kcJ cJ 550 fT), (aN, kcJ cJ 550 fN)] s.heap.size = A at hD hE ⊢
  have hA : ∀ q : Nat, s.heap.size ≤ q → A q := fun q h => by rw [← hAe]; exact Or.inr h
  have hl := lv_entry ([.ref h, .int a1, .int b1, .int vc]) (n := 9) (Nat.le_of_ble_eq_true rfl)
  rw [lg_entry_eq]
  generalize (lg_sl ([.ref h, .int a1, .int b1, .int vc]) ++ List.replicate (9 - (lg_sl ([.ref h, .int a1, .int b1, .int vc])).length) Slot.unset).toArray = ls at hl ⊢
  have hl : lv_has ls 9 [(0, .ref h), (1, .int a1), (2, .int b1), (3, .int vc)] := hl
  obtain ⟨H, hH0⟩ : ∃ H, H = s.heap := ⟨_, rfl⟩
  have hS : va_S A s.heap H [] := by rw [hH0]; exact va_S.rf
  have hP : va_P D vwCl [(h, oX11 th aw ai ab ac hi re aP ta po en be de fa a5 sp av an ak ne aW aC ag aT aN aF), (aw, kcI cI 2179 fw), (aT, kcJ cJ 550 fT), (aN, kcJ cJ 550 fN)] H := by rw [hH0]; exact hP
  refine kHeap hH0 ?_
  clear hH0
  refine lv_iload_n hx hb dX11_tornBy_0 rfl (lv_at hl 1 rfl) ?_
  refine lv_bipush (v := 54) hx hb dX11_tornBy_1 (by decide) ?_
  refine lv_icmp_le (tgt := 8) hx hb dX11_tornBy_3 (by decide) (fun c1 => ?_) (fun c1 => ?_)
  · skip
    have k2 : Rg a1 0 54 := rg_e1 (leI c1) H_a1 (rg_lit (n := 54) (by decide)) (by decide)
    refine lv_iconst (v := 0) hx hb dX11_tornBy_8 (by decide) ?_
    refine lv_istore (lv' := [(4, .int 0), (0, .ref h), (1, .int a1), (2, .int b1), (3, .int vc)]) hx hb dX11_tornBy_9 hl (by decide) rfl (fun ls hl => ?_)
    refine k_loop (hd := 11) (fun (u : Int32 × (Nat → Int64)) => match u with | (y121, g122) => (550 - (y121).toInt).toNat) (fun (u : Int32 × (Nat → Int64)) (H : Heap) (locs : List Loc) (ls : Array Slot) => match u with | (y121, g122) => (F_r_tornBy (gT fw) fT fN a1.toInt b1.toInt vc.toInt = F_r_tornBy_l1 (gT fw) fN a1.toInt b1.toInt vc.toInt (y121.toInt, g122)) ∧ Rg y121 0 550 ∧ va_P D vwCl [(h, oX11 th aw ai ab ac hi re aP ta po en be de fa a5 sp av an ak ne aW aC ag aT aN aF), (aw, kcI cI 2179 fw), (aT, kcJ cJ 550 g122), (aN, kcJ cJ 550 fN)] H ∧ va_D A [(h, oX11 th aw ai ab ac hi re aP ta po en be de fa a5 sp av an ak ne aW aC ag aT aN aF), (aw, kcI cI 2179 fw), (aT, kcJ cJ 550 g122), (aN, kcJ cJ 550 fN)] ∧ va_S A s.heap H locs ∧ lv_has ls 9 [(4, .int y121), (0, .ref h), (1, .int a1), (2, .int b1), (3, .int vc)]) ((0 : Int32), fT) ⟨(kif_t (leI c1) rfl), (rg_w (rg_lit (n := 0) (by decide)) (by decide)), hP.sub (ws' := [(h, oX11 th aw ai ab ac hi re aP ta po en be de fa a5 sp av an ak ne aW aC ag aT aN aF), (aw, kcI cI 2179 fw), (aT, kcJ cJ 550 fT), (aN, kcJ cJ 550 fN)]) [0, 1, 2, 3] rfl, hD.sub (ws' := [(h, oX11 th aw ai ab ac hi re aP ta po en be de fa a5 sp av an ak ne aW aC ag aT aN aF), (aw, kcI cI 2179 fw), (aT, kcJ cJ 550 fT), (aN, kcJ cJ 550 fN)]) [0, 1, 2, 3] (by decide) rfl, hS, lv_sub (l' := [(4, .int 0), (0, .ref h), (1, .int a1), (2, .int b1), (3, .int vc)]) hl [0, 1, 2, 3, 4] rfl⟩ (fun u H locs ls hI ih123 => ?_)
    clear hP hD hS hl
    obtain ⟨y121, g122⟩ := u
    obtain ⟨hF1, hy121, hP, hD, hS, hl⟩ := hI
    have hP : va_P D vwCl [(h, oX11 th aw ai ab ac hi re aP ta po en be de fa a5 sp av an ak ne aW aC ag aT aN aF), (aw, kcI cI 2179 fw), (aT, kcJ cJ 550 g122), (aN, kcJ cJ 550 fN)] H := hP
    have hD : va_D A [(h, oX11 th aw ai ab ac hi re aP ta po en be de fa a5 sp av an ak ne aW aC ag aT aN aF), (aw, kcI cI 2179 fw), (aT, kcJ cJ 550 g122), (aN, kcJ cJ 550 fN)] := hD
    have hl : lv_has ls 9 [(4, .int y121), (0, .ref h), (1, .int a1), (2, .int b1), (3, .int vc)] := hl
    refine lv_iload hx hb dX11_tornBy_11 (lv_at hl 0 rfl) ?_
    refine lv_sipush (v := 550) hx hb dX11_tornBy_13 (by decide) ?_
    refine lv_icmp_ge (tgt := 33) hx hb dX11_tornBy_16 (by decide) (fun c124 => ?_) (fun c124 => ?_)
    · skip
      have k125 : Rg y121 550 550 := rg_e2 (leI c124) (rg_lit (n := 550) (by decide)) hy121 (by decide)
      refine lv_iconst (v := 0) hx hb dX11_tornBy_33 (by decide) ?_
      refine lv_istore (lv' := [(4, .int 0), (0, .ref h), (1, .int a1), (2, .int b1), (3, .int vc)]) hx hb dX11_tornBy_34 hl (by decide) rfl (fun ls hl => ?_)
      refine k_loop (hd := 36) (fun (u : Int32 × (Nat → Int64)) => match u with | (y504, g505) => (10 - (y504).toInt).toNat) (fun (u : Int32 × (Nat → Int64)) (H : Heap) (locs : List Loc) (ls : Array Slot) => match u with | (y504, g505) => (F_r_tornBy_l1_s (gT fw) fN a1.toInt b1.toInt vc.toInt (y121.toInt, g122) = F_r_tornBy_l2 (gT fw) fN a1.toInt b1.toInt vc.toInt (y504.toInt, g505)) ∧ Rg y504 0 10 ∧ va_P D vwCl [(h, oX11 th aw ai ab ac hi re aP ta po en be de fa a5 sp av an ak ne aW aC ag aT aN aF), (aw, kcI cI 2179 fw), (aT, kcJ cJ 550 g505), (aN, kcJ cJ 550 fN)] H ∧ va_D A [(h, oX11 th aw ai ab ac hi re aP ta po en be de fa a5 sp av an ak ne aW aC ag aT aN aF), (aw, kcI cI 2179 fw), (aT, kcJ cJ 550 g505), (aN, kcJ cJ 550 fN)] ∧ va_S A s.heap H locs ∧ lv_has ls 9 [(4, .int y504), (0, .ref h), (1, .int a1), (2, .int b1), (3, .int vc)]) ((0 : Int32), g122) ⟨(kC_eq rfl (kif_t (leI c124) rfl)), (rg_w (rg_lit (n := 0) (by decide)) (by decide)), hP.sub (ws' := [(h, oX11 th aw ai ab ac hi re aP ta po en be de fa a5 sp av an ak ne aW aC ag aT aN aF), (aw, kcI cI 2179 fw), (aT, kcJ cJ 550 g122), (aN, kcJ cJ 550 fN)]) [0, 1, 2, 3] rfl, hD.sub (ws' := [(h, oX11 th aw ai ab ac hi re aP ta po en be de fa a5 sp av an ak ne aW aC ag aT aN aF), (aw, kcI cI 2179 fw), (aT, kcJ cJ 550 g122), (aN, kcJ cJ 550 fN)]) [0, 1, 2, 3] (by decide) rfl, hS, lv_sub (l' := [(4, .int 0), (0, .ref h), (1, .int a1), (2, .int b1), (3, .int vc)]) hl [0, 1, 2, 3, 4] rfl⟩ (fun u H locs ls hI ih506 => ?_)
      clear hP hD hS hl
      obtain ⟨y504, g505⟩ := u
      obtain ⟨hF2, hy504, hP, hD, hS, hl⟩ := hI
      have hP : va_P D vwCl [(h, oX11 th aw ai ab ac hi re aP ta po en be de fa a5 sp av an ak ne aW aC ag aT aN aF), (aw, kcI cI 2179 fw), (aT, kcJ cJ 550 g505), (aN, kcJ cJ 550 fN)] H := hP
      have hD : va_D A [(h, oX11 th aw ai ab ac hi re aP ta po en be de fa a5 sp av an ak ne aW aC ag aT aN aF), (aw, kcI cI 2179 fw), (aT, kcJ cJ 550 g505), (aN, kcJ cJ 550 fN)] := hD
      have hl : lv_has ls 9 [(4, .int y504), (0, .ref h), (1, .int a1), (2, .int b1), (3, .int vc)] := hl
      refine lv_iload hx hb dX11_tornBy_36 (lv_at hl 0 rfl) ?_
      refine lv_aload_n hx hb dX11_tornBy_38 rfl (lv_at hl 1 rfl) ?_
      refine kpurei (wc := [(h, oX11 th aw ai ab ac hi re aP ta po en be de fa a5 sp av an ak ne aW aC ag aT aN aF), (aw, kcI cI 2179 fw)]) hP hD hS hA [0, 1] rfl (by decide) (fun hPc hDc hFc => va_runV (As := []) (rest := [.int y504]) ⟨hx, hb, hml, hown, hts⟩ (r_men l D cI cJ cB cC h th aw ai ab ac hi re aP ta po en be de fa a5 sp av an ak ne aW aC ag aT aN aF fw H.size H_fw_W) (cwV 0 hts gX11_tornBy_X11_men rfl rfl rfl ⟨rfl, hdX11_men⟩ ⟨Nat.le_of_ble_eq_true rfl, Nat.le_of_ble_eq_true rfl⟩) ⟨kBlind, va_recv hK hPc (ci := 10) (q0 := 0) rfl rfl, fun U hU hW => ⟨rfl, by rw [hU], hN.warm hW, hE.pass hS hFc hW hU, by rw [hU]; exact hPc, va_K.moved hW.alike hK, hDc⟩⟩ rfl rfl hl.1 rfl (lv_room (Nat.le_of_ble_eq_true rfl)) dX11_tornBy_39 ⟨Nat.le_of_ble_eq_true rfl, Nat.le_of_ble_eq_true rfl⟩) (fun r507 u H locs hw hP hS => ?_)
      obtain ⟨k508, k509, k510⟩ := hw
      refine lv_icmp_ge (tgt := 80) hx hb dX11_tornBy_42 (by decide) (fun c511 => ?_) (fun c511 => ?_)
      · skip
        refine lv_iconst (v := 1) hx hb dX11_tornBy_80 (by decide) ?_
        refine lv_istore (lv' := [(4, .int 1), (0, .ref h), (1, .int a1), (2, .int b1), (3, .int vc)]) hx hb dX11_tornBy_81 hl (by decide) rfl (fun ls hl => ?_)
        refine k_loop (hd := 83) (fun (u : Int32 × (Nat → Int64) × (Nat → Int64)) => match u with | (y1116894, g1116895, g1116896) => (2147483647 - (y1116894).toInt).toNat) (fun (u : Int32 × (Nat → Int64) × (Nat → Int64)) (H : Heap) (locs : List Loc) (ls : Array Slot) => match u with | (y1116894, g1116895, g1116896) => (F_r_tornBy_l2_s (gT fw) fN a1.toInt b1.toInt vc.toInt (y504.toInt, g505) = F_r_tornBy_l3 (gT fw) a1.toInt b1.toInt vc.toInt r507.toInt (y1116894.toInt, g1116895, g1116896)) ∧ Rg y1116894 1 2147483647 ∧ va_P D vwCl [(h, oX11 th aw ai ab ac hi re aP ta po en be de fa a5 sp av an ak ne aW aC ag aT aN aF), (aw, kcI cI 2179 fw), (aT, kcJ cJ 550 g1116895), (aN, kcJ cJ 550 g1116896)] H ∧ va_D A [(h, oX11 th aw ai ab ac hi re aP ta po en be de fa a5 sp av an ak ne aW aC ag aT aN aF), (aw, kcI cI 2179 fw), (aT, kcJ cJ 550 g1116895), (aN, kcJ cJ 550 g1116896)] ∧ va_S A s.heap H locs ∧ lv_has ls 9 [(4, .int y1116894), (0, .ref h), (1, .int a1), (2, .int b1), (3, .int vc)]) ((1 : Int32), g505, fN) ⟨(kC_eq rfl (kLet_eq (k510).symm (kif_t (leI c511) rfl))), (rg_w (rg_lit (n := 1) (by decide)) (by decide)), hP.sub (ws' := [(h, oX11 th aw ai ab ac hi re aP ta po en be de fa a5 sp av an ak ne aW aC ag aT aN aF), (aw, kcI cI 2179 fw), (aT, kcJ cJ 550 g505), (aN, kcJ cJ 550 fN)]) [0, 1, 2, 3] rfl, hD.sub (ws' := [(h, oX11 th aw ai ab ac hi re aP ta po en be de fa a5 sp av an ak ne aW aC ag aT aN aF), (aw, kcI cI 2179 fw), (aT, kcJ cJ 550 g505), (aN, kcJ cJ 550 fN)]) [0, 1, 2, 3] (by decide) rfl, hS, lv_sub (l' := [(4, .int 1), (0, .ref h), (1, .int a1), (2, .int b1), (3, .int vc)]) hl [0, 1, 2, 3, 4] rfl⟩ (fun u H locs ls hI ih1116897 => ?_)
        clear hP hD hS hl
        obtain ⟨y1116894, g1116895, g1116896⟩ := u
        obtain ⟨hF3, hy1116894, hP, hD, hS, hl⟩ := hI
        have hP : va_P D vwCl [(h, oX11 th aw ai ab ac hi re aP ta po en be de fa a5 sp av an ak ne aW aC ag aT aN aF), (aw, kcI cI 2179 fw), (aT, kcJ cJ 550 g1116895), (aN, kcJ cJ 550 g1116896)] H := hP
        have hD : va_D A [(h, oX11 th aw ai ab ac hi re aP ta po en be de fa a5 sp av an ak ne aW aC ag aT aN aF), (aw, kcI cI 2179 fw), (aT, kcJ cJ 550 g1116895), (aN, kcJ cJ 550 g1116896)] := hD
        have hl : lv_has ls 9 [(4, .int y1116894), (0, .ref h), (1, .int a1), (2, .int b1), (3, .int vc)] := hl
        refine lv_iload hx hb dX11_tornBy_83 (lv_at hl 0 rfl) ?_
        refine lv_iload_n hx hb dX11_tornBy_85 rfl (lv_at hl 3 rfl) ?_
        refine lv_icmp_ge (tgt := 274) hx hb dX11_tornBy_86 (by decide) (fun c1116898 => ?_) (fun c1116898 => ?_)
        · skip
          refine lv_lconst (v := 0) hx hb dX11_tornBy_274 (by decide) ?_
          refine lv_lstore (lv' := [(4, .long 0), (0, .ref h), (1, .int a1), (2, .int b1), (3, .int vc)]) hx hb dX11_tornBy_275 hl (by decide) rfl (fun ls hl => ?_)
          refine lv_iconst (v := 0) hx hb dX11_tornBy_277 (by decide) ?_
          refine lv_istore (lv' := [(6, .int 0), (4, .long 0), (0, .ref h), (1, .int a1), (2, .int b1), (3, .int vc)]) hx hb dX11_tornBy_278 hl (by decide) rfl (fun ls hl => ?_)
          refine k_loop (hd := 280) (fun (u : Int32 × Int64) => match u with | (y1117165, y1117166) => (10 - (y1117165).toInt).toNat) (fun (u : Int32 × Int64) (H : Heap) (locs : List Loc) (ls : Array Slot) => match u with | (y1117165, y1117166) => (F_r_tornBy_l3_s (gT fw) a1.toInt b1.toInt vc.toInt r507.toInt (y1116894.toInt, g1116895, g1116896) = F_r_tornBy_l4 (gT fw) a1.toInt r507.toInt g1116895 g1116896 (y1117165.toInt, y1117166)) ∧ Rg y1117165 0 10 ∧ va_P D vwCl [(h, oX11 th aw ai ab ac hi re aP ta po en be de fa a5 sp av an ak ne aW aC ag aT aN aF), (aw, kcI cI 2179 fw), (aT, kcJ cJ 550 g1116895), (aN, kcJ cJ 550 g1116896)] H ∧ va_D A [(h, oX11 th aw ai ab ac hi re aP ta po en be de fa a5 sp av an ak ne aW aC ag aT aN aF), (aw, kcI cI 2179 fw), (aT, kcJ cJ 550 g1116895), (aN, kcJ cJ 550 g1116896)] ∧ va_S A s.heap H locs ∧ lv_has ls 9 [(6, .int y1117165), (4, .long y1117166), (0, .ref h), (1, .int a1), (2, .int b1), (3, .int vc)]) ((0 : Int32), (0 : Int64)) ⟨(kC_eq rfl (kC_eq rfl (kif_t (leI c1116898) rfl))), (rg_w (rg_lit (n := 0) (by decide)) (by decide)), hP.sub (ws' := [(h, oX11 th aw ai ab ac hi re aP ta po en be de fa a5 sp av an ak ne aW aC ag aT aN aF), (aw, kcI cI 2179 fw), (aT, kcJ cJ 550 g1116895), (aN, kcJ cJ 550 g1116896)]) [0, 1, 2, 3] rfl, hD.sub (ws' := [(h, oX11 th aw ai ab ac hi re aP ta po en be de fa a5 sp av an ak ne aW aC ag aT aN aF), (aw, kcI cI 2179 fw), (aT, kcJ cJ 550 g1116895), (aN, kcJ cJ 550 g1116896)]) [0, 1, 2, 3] (by decide) rfl, hS, lv_sub (l' := [(6, .int 0), (4, .long 0), (0, .ref h), (1, .int a1), (2, .int b1), (3, .int vc)]) hl [0, 1, 2, 3, 4, 5] rfl⟩ (fun u H locs ls hI ih1117167 => ?_)
          clear hP hD hS hl
          obtain ⟨y1117165, y1117166⟩ := u
          obtain ⟨hF4, hy1117165, hP, hD, hS, hl⟩ := hI
          have hP : va_P D vwCl [(h, oX11 th aw ai ab ac hi re aP ta po en be de fa a5 sp av an ak ne aW aC ag aT aN aF), (aw, kcI cI 2179 fw), (aT, kcJ cJ 550 g1116895), (aN, kcJ cJ 550 g1116896)] H := hP
          have hD : va_D A [(h, oX11 th aw ai ab ac hi re aP ta po en be de fa a5 sp av an ak ne aW aC ag aT aN aF), (aw, kcI cI 2179 fw), (aT, kcJ cJ 550 g1116895), (aN, kcJ cJ 550 g1116896)] := hD
          have hl : lv_has ls 9 [(6, .int y1117165), (4, .long y1117166), (0, .ref h), (1, .int a1), (2, .int b1), (3, .int vc)] := hl
          refine lv_iload hx hb dX11_tornBy_280 (lv_at hl 0 rfl) ?_
          refine lv_aload_n hx hb dX11_tornBy_282 rfl (lv_at hl 2 rfl) ?_
          refine kpurei (wc := [(h, oX11 th aw ai ab ac hi re aP ta po en be de fa a5 sp av an ak ne aW aC ag aT aN aF), (aw, kcI cI 2179 fw)]) hP hD hS hA [0, 1] rfl (by decide) (fun hPc hDc hFc => va_runV (As := []) (rest := [.int y1117165]) ⟨hx, hb, hml, hown, hts⟩ (r_men l D cI cJ cB cC h th aw ai ab ac hi re aP ta po en be de fa a5 sp av an ak ne aW aC ag aT aN aF fw H.size H_fw_W) (cwV 0 hts gX11_tornBy_X11_men rfl rfl rfl ⟨rfl, hdX11_men⟩ ⟨Nat.le_of_ble_eq_true rfl, Nat.le_of_ble_eq_true rfl⟩) ⟨kBlind, va_recv hK hPc (ci := 10) (q0 := 0) rfl rfl, fun U hU hW => ⟨rfl, by rw [hU], hN.warm hW, hE.pass hS hFc hW hU, by rw [hU]; exact hPc, va_K.moved hW.alike hK, hDc⟩⟩ rfl rfl hl.1 rfl (lv_room (Nat.le_of_ble_eq_true rfl)) dX11_tornBy_283 ⟨Nat.le_of_ble_eq_true rfl, Nat.le_of_ble_eq_true rfl⟩) (fun r1117168 u H locs hw hP hS => ?_)
          obtain ⟨k1117169, k1117170, k1117171⟩ := hw
          obtain rfl : r507 = r1117168 := k508.trans k1117169.symm
          refine lv_icmp_ge (tgt := 312) hx hb dX11_tornBy_286 (by decide) (fun c1117172 => ?_) (fun c1117172 => ?_)
          · skip
            refine lv_lload hx hb dX11_tornBy_312 (lv_at hl 1 rfl) ?_
            have hP9 := hP.sub (ws' := [(h, oX11 th aw ai ab ac hi re aP ta po en be de fa a5 sp av an ak ne aW aC ag aT aN aF), (aw, kcI cI 2179 fw), (aT, kcJ cJ 550 g1116895), (aN, kcJ cJ 550 g1116896)]) [0, 1, 2, 3] rfl
            have hD9 := hD.sub (ws' := [(h, oX11 th aw ai ab ac hi re aP ta po en be de fa a5 sp av an ak ne aW aC ag aT aN aF), (aw, kcI cI 2179 fw), (aT, kcJ cJ 550 g1116895), (aN, kcJ cJ 550 g1116896)]) [0, 1, 2, 3] (by decide) rfl
            exact W.lret (v := y1117166) hx hb hr (fun t ht hW => ⟨⟨y1117166, (g1116895, g1116896), rfl, (hF1.trans (kIter_out (hF2.trans (kIter_out (hF3.trans (kIter_out (hF4.trans (kIter_out (kC_eq rfl (kLet_eq (k1117171).symm (kif_t (leI c1117172) rfl))))))))))), by rw [ht]; exact hP9, va_K.moved hW.alike hK, hD9⟩, hS.F ht⟩) hS.2.2 dX11_tornBy_314
          · skip
            have k1117173 : Rg y1117165 0 9 := rg_l1 (nleI c1117172) hy1117165 k509 (by decide)
            have k1117174 : Rg r507 1 10 := rg_l2 (nleI c1117172) hy1117165 k509 (by decide)
            refine lv_lload hx hb dX11_tornBy_289 (lv_at hl 1 rfl) ?_
            refine lv_aload_n hx hb dX11_tornBy_291 rfl (lv_at hl 2 rfl) ?_
            refine va_get (D := D) (ci := 10) (v := .ref aT) (C := RX11) (T := TX11) (N := 26) hx hb hts iG_X11 hown hK hP 0 rfl rfl 23 (by decide) (hts _ w5_17) (fun _ h9 => h9) rfl dX11_tornBy_292 ?_
            refine lv_bipush (v := 55) hx hb dX11_tornBy_295 (by decide) ?_
            refine lv_iload hx hb dX11_tornBy_297 (lv_at hl 0 rfl) ?_
            refine lv_imul hx hb dX11_tornBy_299 ?_
            refine lv_topi (fun x1117175 ex1117175 => ?_)
            have tx1117175 : x1117175.toInt = 55 * y1117165.toInt := ti_mul ex1117175 (rg_lit (n := 55) (by decide)) k1117173 (by decide) (by decide) rfl
            have k1117176 : Rg x1117175 0 495 := rg_mul ex1117175 (rg_lit (n := 55) (by decide)) k1117173 (by decide)
            refine lv_iload_n hx hb dX11_tornBy_300 rfl (lv_at hl 3 rfl) ?_
            refine lv_iadd hx hb dX11_tornBy_301 ?_
            refine lv_topi (fun x1117177 ex1117177 => ?_)
            have tx1117177 : x1117177.toInt = x1117175.toInt + a1.toInt := ti_add ex1117177 k1117176 k2 (by decide) rfl rfl
            have k1117178 : Rg x1117177 0 549 := rg_add ex1117177 k1117176 k2 (by decide)
            refine va_lald hx hb hK hP 2 1 rfl rfl (rg_in k1117178 (by decide)) dX11_tornBy_302 ?_
            refine lv_topl (fun x1117179 ex1117179 => ?_)
            refine lv_ladd hx hb dX11_tornBy_303 ?_
            refine lv_topl (fun x1117180 ex1117180 => ?_)
            refine lv_lstore (lv' := [(4, .long x1117180), (6, .int y1117165), (0, .ref h), (1, .int a1), (2, .int b1), (3, .int vc)]) hx hb dX11_tornBy_304 hl (by decide) rfl (fun ls hl => ?_)
            obtain ⟨x1117181, ex1117181⟩ : ∃ y : Int32, y = y1117165 + 1 := ⟨_, rfl⟩
            refine lv_iinc (v := x1117181) (lv' := [(6, .int x1117181), (4, .long x1117180), (0, .ref h), (1, .int a1), (2, .int b1), (3, .int vc)]) hx hb dX11_tornBy_306 hl (k := 1) rfl (by rw [ex1117181]; rfl) (by decide) rfl (fun ls hl => ?_)
            have k1117182 : Rg x1117181 1 10 := rg_add ex1117181 k1117173 (rg_lit (n := 1) (by decide)) (by decide)
            refine lv_goto (tgt := 280) hx hb dX11_tornBy_309 (by decide) ?_
            exact ih1117167 (x1117181, x1117180) _ _ _ (by show (10 - (x1117181).toInt).toNat < (10 - (y1117165).toInt).toNat; exact mu_up ex1117181 k1117173 k1117182 (by decide)) ⟨(hF4.trans (kIter_go (kC_eq rfl (kLet_eq (k1117171).symm (kif_f (xF_le c1117172) (kLet_eq (ti_mul ex1117175 (rg_lit (n := 55) (by decide)) k1117173 (by decide) rfl rfl) (kLet_eq (ti_add ex1117177 k1117176 k2 (by decide) rfl rfl) (kLet_eq (ke_ldL ex1117179) (kLet_eq ex1117180 (kLet_eq (ti_add ex1117181 k1117173 (rg_lit (n := 1) (by decide)) (by decide) rfl rfl) rfl)))))))))), (rg_w k1117182 (by decide)), hP.sub (ws' := [(h, oX11 th aw ai ab ac hi re aP ta po en be de fa a5 sp av an ak ne aW aC ag aT aN aF), (aw, kcI cI 2179 fw), (aT, kcJ cJ 550 g1116895), (aN, kcJ cJ 550 g1116896)]) [0, 1, 2, 3] rfl, hD.sub (ws' := [(h, oX11 th aw ai ab ac hi re aP ta po en be de fa a5 sp av an ak ne aW aC ag aT aN aF), (aw, kcI cI 2179 fw), (aT, kcJ cJ 550 g1116895), (aN, kcJ cJ 550 g1116896)]) [0, 1, 2, 3] (by decide) rfl, hS, lv_sub (l' := [(6, .int x1117181), (4, .long x1117180), (0, .ref h), (1, .int a1), (2, .int b1), (3, .int vc)]) hl [0, 1, 2, 3, 4, 5] rfl⟩
        · skip
          have k1117183 : Rg y1116894 1 2147483646 := rg_l1 (nleI c1116898) hy1116894 (rg_any b1) (by decide)
          have k1117184 : Rg b1 2 2147483647 := rg_l2 (nleI c1116898) hy1116894 (rg_any b1) (by decide)
          refine lv_iconst (v := 0) hx hb dX11_tornBy_89 (by decide) ?_
          refine lv_istore (lv' := [(5, .int 0), (4, .int y1116894), (0, .ref h), (1, .int a1), (2, .int b1), (3, .int vc)]) hx hb dX11_tornBy_90 hl (by decide) rfl (fun ls hl => ?_)
          refine k_loop (hd := 92) (fun (u : Int32 × (Nat → Int64)) => match u with | (y1117303, g1117304) => (550 - (y1117303).toInt).toNat) (fun (u : Int32 × (Nat → Int64)) (H : Heap) (locs : List Loc) (ls : Array Slot) => match u with | (y1117303, g1117304) => (F_r_tornBy_l3_s (gT fw) a1.toInt b1.toInt vc.toInt r507.toInt (y1116894.toInt, g1116895, g1116896) = F_r_tornBy_l5 (gT fw) vc.toInt r507.toInt y1116894.toInt g1116895 (y1117303.toInt, g1117304)) ∧ Rg y1117303 0 550 ∧ va_P D vwCl [(h, oX11 th aw ai ab ac hi re aP ta po en be de fa a5 sp av an ak ne aW aC ag aT aN aF), (aw, kcI cI 2179 fw), (aT, kcJ cJ 550 g1116895), (aN, kcJ cJ 550 g1117304)] H ∧ va_D A [(h, oX11 th aw ai ab ac hi re aP ta po en be de fa a5 sp av an ak ne aW aC ag aT aN aF), (aw, kcI cI 2179 fw), (aT, kcJ cJ 550 g1116895), (aN, kcJ cJ 550 g1117304)] ∧ va_S A s.heap H locs ∧ lv_has ls 9 [(5, .int y1117303), (4, .int y1116894), (0, .ref h), (1, .int a1), (2, .int b1), (3, .int vc)]) ((0 : Int32), g1116896) ⟨(kC_eq rfl (kC_eq rfl (kif_f (xF_le c1116898) rfl))), (rg_w (rg_lit (n := 0) (by decide)) (by decide)), hP.sub (ws' := [(h, oX11 th aw ai ab ac hi re aP ta po en be de fa a5 sp av an ak ne aW aC ag aT aN aF), (aw, kcI cI 2179 fw), (aT, kcJ cJ 550 g1116895), (aN, kcJ cJ 550 g1116896)]) [0, 1, 2, 3] rfl, hD.sub (ws' := [(h, oX11 th aw ai ab ac hi re aP ta po en be de fa a5 sp av an ak ne aW aC ag aT aN aF), (aw, kcI cI 2179 fw), (aT, kcJ cJ 550 g1116895), (aN, kcJ cJ 550 g1116896)]) [0, 1, 2, 3] (by decide) rfl, hS, lv_sub (l' := [(5, .int 0), (4, .int y1116894), (0, .ref h), (1, .int a1), (2, .int b1), (3, .int vc)]) hl [0, 1, 2, 3, 4, 5] rfl⟩ (fun u H locs ls hI ih1117305 => ?_)
          clear hP hD hS hl
          obtain ⟨y1117303, g1117304⟩ := u
          obtain ⟨hF5, hy1117303, hP, hD, hS, hl⟩ := hI
          have hP : va_P D vwCl [(h, oX11 th aw ai ab ac hi re aP ta po en be de fa a5 sp av an ak ne aW aC ag aT aN aF), (aw, kcI cI 2179 fw), (aT, kcJ cJ 550 g1116895), (aN, kcJ cJ 550 g1117304)] H := hP
          have hD : va_D A [(h, oX11 th aw ai ab ac hi re aP ta po en be de fa a5 sp av an ak ne aW aC ag aT aN aF), (aw, kcI cI 2179 fw), (aT, kcJ cJ 550 g1116895), (aN, kcJ cJ 550 g1117304)] := hD
          have hl : lv_has ls 9 [(5, .int y1117303), (4, .int y1116894), (0, .ref h), (1, .int a1), (2, .int b1), (3, .int vc)] := hl
          refine lv_iload hx hb dX11_tornBy_92 (lv_at hl 0 rfl) ?_
          refine lv_sipush (v := 550) hx hb dX11_tornBy_94 (by decide) ?_
          refine lv_icmp_ge (tgt := 114) hx hb dX11_tornBy_97 (by decide) (fun c1117306 => ?_) (fun c1117306 => ?_)
          · skip
            have k1117307 : Rg y1117303 550 550 := rg_e2 (leI c1117306) (rg_lit (n := 550) (by decide)) hy1117303 (by decide)
            refine lv_iconst (v := 0) hx hb dX11_tornBy_114 (by decide) ?_
            refine lv_istore (lv' := [(5, .int 0), (4, .int y1116894), (0, .ref h), (1, .int a1), (2, .int b1), (3, .int vc)]) hx hb dX11_tornBy_115 hl (by decide) rfl (fun ls hl => ?_)
            refine k_loop (hd := 117) (fun (u : Int32 × (Nat → Int64)) => match u with | (y1233740, g1233741) => (10 - (y1233740).toInt).toNat) (fun (u : Int32 × (Nat → Int64)) (H : Heap) (locs : List Loc) (ls : Array Slot) => match u with | (y1233740, g1233741) => (F_r_tornBy_l5_s (gT fw) vc.toInt r507.toInt y1116894.toInt g1116895 (y1117303.toInt, g1117304) = F_r_tornBy_l6 (gT fw) vc.toInt r507.toInt y1116894.toInt g1116895 (y1233740.toInt, g1233741)) ∧ Rg y1233740 0 10 ∧ va_P D vwCl [(h, oX11 th aw ai ab ac hi re aP ta po en be de fa a5 sp av an ak ne aW aC ag aT aN aF), (aw, kcI cI 2179 fw), (aT, kcJ cJ 550 g1116895), (aN, kcJ cJ 550 g1233741)] H ∧ va_D A [(h, oX11 th aw ai ab ac hi re aP ta po en be de fa a5 sp av an ak ne aW aC ag aT aN aF), (aw, kcI cI 2179 fw), (aT, kcJ cJ 550 g1116895), (aN, kcJ cJ 550 g1233741)] ∧ va_S A s.heap H locs ∧ lv_has ls 9 [(5, .int y1233740), (4, .int y1116894), (0, .ref h), (1, .int a1), (2, .int b1), (3, .int vc)]) ((0 : Int32), g1117304) ⟨(kC_eq rfl (kif_t (leI c1117306) rfl)), (rg_w (rg_lit (n := 0) (by decide)) (by decide)), hP.sub (ws' := [(h, oX11 th aw ai ab ac hi re aP ta po en be de fa a5 sp av an ak ne aW aC ag aT aN aF), (aw, kcI cI 2179 fw), (aT, kcJ cJ 550 g1116895), (aN, kcJ cJ 550 g1117304)]) [0, 1, 2, 3] rfl, hD.sub (ws' := [(h, oX11 th aw ai ab ac hi re aP ta po en be de fa a5 sp av an ak ne aW aC ag aT aN aF), (aw, kcI cI 2179 fw), (aT, kcJ cJ 550 g1116895), (aN, kcJ cJ 550 g1117304)]) [0, 1, 2, 3] (by decide) rfl, hS, lv_sub (l' := [(5, .int 0), (4, .int y1116894), (0, .ref h), (1, .int a1), (2, .int b1), (3, .int vc)]) hl [0, 1, 2, 3, 4, 5] rfl⟩ (fun u H locs ls hI ih1233742 => ?_)
            clear hP hD hS hl
            obtain ⟨y1233740, g1233741⟩ := u
            obtain ⟨hF6, hy1233740, hP, hD, hS, hl⟩ := hI
            have hP : va_P D vwCl [(h, oX11 th aw ai ab ac hi re aP ta po en be de fa a5 sp av an ak ne aW aC ag aT aN aF), (aw, kcI cI 2179 fw), (aT, kcJ cJ 550 g1116895), (aN, kcJ cJ 550 g1233741)] H := hP
            have hD : va_D A [(h, oX11 th aw ai ab ac hi re aP ta po en be de fa a5 sp av an ak ne aW aC ag aT aN aF), (aw, kcI cI 2179 fw), (aT, kcJ cJ 550 g1116895), (aN, kcJ cJ 550 g1233741)] := hD
            have hl : lv_has ls 9 [(5, .int y1233740), (4, .int y1116894), (0, .ref h), (1, .int a1), (2, .int b1), (3, .int vc)] := hl
            refine lv_iload hx hb dX11_tornBy_117 (lv_at hl 0 rfl) ?_
            refine lv_aload_n hx hb dX11_tornBy_119 rfl (lv_at hl 2 rfl) ?_
            refine kpurei (wc := [(h, oX11 th aw ai ab ac hi re aP ta po en be de fa a5 sp av an ak ne aW aC ag aT aN aF), (aw, kcI cI 2179 fw)]) hP hD hS hA [0, 1] rfl (by decide) (fun hPc hDc hFc => va_runV (As := []) (rest := [.int y1233740]) ⟨hx, hb, hml, hown, hts⟩ (r_men l D cI cJ cB cC h th aw ai ab ac hi re aP ta po en be de fa a5 sp av an ak ne aW aC ag aT aN aF fw H.size H_fw_W) (cwV 0 hts gX11_tornBy_X11_men rfl rfl rfl ⟨rfl, hdX11_men⟩ ⟨Nat.le_of_ble_eq_true rfl, Nat.le_of_ble_eq_true rfl⟩) ⟨kBlind, va_recv hK hPc (ci := 10) (q0 := 0) rfl rfl, fun U hU hW => ⟨rfl, by rw [hU], hN.warm hW, hE.pass hS hFc hW hU, by rw [hU]; exact hPc, va_K.moved hW.alike hK, hDc⟩⟩ rfl rfl hl.1 rfl (lv_room (Nat.le_of_ble_eq_true rfl)) dX11_tornBy_120 ⟨Nat.le_of_ble_eq_true rfl, Nat.le_of_ble_eq_true rfl⟩) (fun r1233743 u H locs hw hP hS => ?_)
            obtain ⟨k1233744, k1233745, k1233746⟩ := hw
            obtain rfl : r507 = r1233743 := k508.trans k1233744.symm
            refine lv_icmp_ge (tgt := 237) hx hb dX11_tornBy_123 (by decide) (fun c1233747 => ?_) (fun c1233747 => ?_)
            · skip
              refine lv_iconst (v := 0) hx hb dX11_tornBy_237 (by decide) ?_
              refine lv_istore (lv' := [(5, .int 0), (4, .int y1116894), (0, .ref h), (1, .int a1), (2, .int b1), (3, .int vc)]) hx hb dX11_tornBy_238 hl (by decide) rfl (fun ls hl => ?_)
              refine k_loop (hd := 240) (fun (u : Int32 × (Nat → Int64)) => match u with | (y1233882, g1233883) => (550 - (y1233882).toInt).toNat) (fun (u : Int32 × (Nat → Int64)) (H : Heap) (locs : List Loc) (ls : Array Slot) => match u with | (y1233882, g1233883) => (F_r_tornBy_l6_s (gT fw) vc.toInt r507.toInt y1116894.toInt g1116895 (y1233740.toInt, g1233741) = F_r_tornBy_l7 y1116894.toInt g1233741 (y1233882.toInt, g1233883)) ∧ Rg y1233882 0 550 ∧ va_P D vwCl [(h, oX11 th aw ai ab ac hi re aP ta po en be de fa a5 sp av an ak ne aW aC ag aT aN aF), (aw, kcI cI 2179 fw), (aT, kcJ cJ 550 g1233883), (aN, kcJ cJ 550 g1233741)] H ∧ va_D A [(h, oX11 th aw ai ab ac hi re aP ta po en be de fa a5 sp av an ak ne aW aC ag aT aN aF), (aw, kcI cI 2179 fw), (aT, kcJ cJ 550 g1233883), (aN, kcJ cJ 550 g1233741)] ∧ va_S A s.heap H locs ∧ lv_has ls 9 [(5, .int y1233882), (4, .int y1116894), (0, .ref h), (1, .int a1), (2, .int b1), (3, .int vc)]) ((0 : Int32), g1116895) ⟨(kC_eq rfl (kLet_eq (k1233746).symm (kif_t (leI c1233747) rfl))), (rg_w (rg_lit (n := 0) (by decide)) (by decide)), hP.sub (ws' := [(h, oX11 th aw ai ab ac hi re aP ta po en be de fa a5 sp av an ak ne aW aC ag aT aN aF), (aw, kcI cI 2179 fw), (aT, kcJ cJ 550 g1116895), (aN, kcJ cJ 550 g1233741)]) [0, 1, 2, 3] rfl, hD.sub (ws' := [(h, oX11 th aw ai ab ac hi re aP ta po en be de fa a5 sp av an ak ne aW aC ag aT aN aF), (aw, kcI cI 2179 fw), (aT, kcJ cJ 550 g1116895), (aN, kcJ cJ 550 g1233741)]) [0, 1, 2, 3] (by decide) rfl, hS, lv_sub (l' := [(5, .int 0), (4, .int y1116894), (0, .ref h), (1, .int a1), (2, .int b1), (3, .int vc)]) hl [0, 1, 2, 3, 4, 5] rfl⟩ (fun u H locs ls hI ih1233884 => ?_)
              clear hP hD hS hl
              obtain ⟨y1233882, g1233883⟩ := u
              obtain ⟨hF7, hy1233882, hP, hD, hS, hl⟩ := hI
              have hP : va_P D vwCl [(h, oX11 th aw ai ab ac hi re aP ta po en be de fa a5 sp av an ak ne aW aC ag aT aN aF), (aw, kcI cI 2179 fw), (aT, kcJ cJ 550 g1233883), (aN, kcJ cJ 550 g1233741)] H := hP
              have hD : va_D A [(h, oX11 th aw ai ab ac hi re aP ta po en be de fa a5 sp av an ak ne aW aC ag aT aN aF), (aw, kcI cI 2179 fw), (aT, kcJ cJ 550 g1233883), (aN, kcJ cJ 550 g1233741)] := hD
              have hl : lv_has ls 9 [(5, .int y1233882), (4, .int y1116894), (0, .ref h), (1, .int a1), (2, .int b1), (3, .int vc)] := hl
              refine lv_iload hx hb dX11_tornBy_240 (lv_at hl 0 rfl) ?_
              refine lv_sipush (v := 550) hx hb dX11_tornBy_242 (by decide) ?_
              refine lv_icmp_ge (tgt := 268) hx hb dX11_tornBy_245 (by decide) (fun c1233885 => ?_) (fun c1233885 => ?_)
              · skip
                have k1233886 : Rg y1233882 550 550 := rg_e2 (leI c1233885) (rg_lit (n := 550) (by decide)) hy1233882 (by decide)
                obtain ⟨x1233887, ex1233887⟩ : ∃ y : Int32, y = y1116894 + 1 := ⟨_, rfl⟩
                refine lv_iinc (v := x1233887) (lv' := [(4, .int x1233887), (5, .int y1233882), (0, .ref h), (1, .int a1), (2, .int b1), (3, .int vc)]) hx hb dX11_tornBy_268 hl (k := 1) rfl (by rw [ex1233887]; rfl) (by decide) rfl (fun ls hl => ?_)
                have k1233888 : Rg x1233887 2 2147483647 := rg_add ex1233887 k1117183 (rg_lit (n := 1) (by decide)) (by decide)
                refine lv_goto (tgt := 83) hx hb dX11_tornBy_271 (by decide) ?_
                exact ih1116897 (x1233887, g1233883, g1233741) _ _ _ (by show (2147483647 - (x1233887).toInt).toNat < (2147483647 - (y1116894).toInt).toNat; exact mu_up ex1233887 k1117183 k1233888 (by decide)) ⟨(hF3.trans (kIter_go (hF5.trans (kIter_out (hF6.trans (kIter_out (hF7.trans (kIter_out (kC_eq rfl (kif_t (leI c1233885) (kLet_eq (ti_add ex1233887 k1117183 (rg_lit (n := 1) (by decide)) (by decide) rfl rfl) rfl))))))))))), (rg_w k1233888 (by decide)), hP.sub (ws' := [(h, oX11 th aw ai ab ac hi re aP ta po en be de fa a5 sp av an ak ne aW aC ag aT aN aF), (aw, kcI cI 2179 fw), (aT, kcJ cJ 550 g1233883), (aN, kcJ cJ 550 g1233741)]) [0, 1, 2, 3] rfl, hD.sub (ws' := [(h, oX11 th aw ai ab ac hi re aP ta po en be de fa a5 sp av an ak ne aW aC ag aT aN aF), (aw, kcI cI 2179 fw), (aT, kcJ cJ 550 g1233883), (aN, kcJ cJ 550 g1233741)]) [0, 1, 2, 3] (by decide) rfl, hS, lv_sub (l' := [(4, .int x1233887), (0, .ref h), (1, .int a1), (2, .int b1), (3, .int vc)]) hl [0, 2, 3, 4, 5] rfl⟩
              · skip
                have k1233889 : Rg y1233882 0 549 := rg_l1 (nleI c1233885) hy1233882 (rg_lit (n := 550) (by decide)) (by decide)
                refine lv_aload_n hx hb dX11_tornBy_248 rfl (lv_at hl 2 rfl) ?_
                refine va_get (D := D) (ci := 10) (v := .ref aT) (C := RX11) (T := TX11) (N := 26) hx hb hts iG_X11 hown hK hP 0 rfl rfl 23 (by decide) (hts _ w5_17) (fun _ h9 => h9) rfl dX11_tornBy_249 ?_
                refine lv_iload hx hb dX11_tornBy_252 (lv_at hl 0 rfl) ?_
                refine lv_aload_n hx hb dX11_tornBy_254 rfl (lv_at hl 2 rfl) ?_
                refine va_get (D := D) (ci := 10) (v := .ref aN) (C := RX11) (T := TX11) (N := 26) hx hb hts iG_X11 hown hK hP 0 rfl rfl 24 (by decide) (hts _ w5_18) (fun _ h9 => h9) rfl dX11_tornBy_255 ?_
                refine lv_iload hx hb dX11_tornBy_258 (lv_at hl 0 rfl) ?_
                refine va_lald hx hb hK hP 3 1 rfl rfl (rg_in k1233889 (by decide)) dX11_tornBy_260 ?_
                refine lv_topl (fun x1233890 ex1233890 => ?_)
                refine va_last hx hb hK hP hD hS 2 1 rfl rfl (rg_in k1233889 (by decide)) dX11_tornBy_261 (fun H locs hP hD hS => ?_)
                have hP : va_P D vwCl [(h, oX11 th aw ai ab ac hi re aP ta po en be de fa a5 sp av an ak ne aW aC ag aT aN aF), (aw, kcI cI 2179 fw), (aT, kcJ cJ 550 (vp_updL g1233883 y1233882.toNatClampNeg x1233890)), (aN, kcJ cJ 550 g1233741)] H := hP
                have hD : va_D A [(h, oX11 th aw ai ab ac hi re aP ta po en be de fa a5 sp av an ak ne aW aC ag aT aN aF), (aw, kcI cI 2179 fw), (aT, kcJ cJ 550 (vp_updL g1233883 y1233882.toNatClampNeg x1233890)), (aN, kcJ cJ 550 g1233741)] := hD
                generalize hg1233891 : (vp_updL g1233883 y1233882.toNatClampNeg x1233890) = g1233891 at hP hD
                obtain ⟨x1233892, ex1233892⟩ : ∃ y : Int32, y = y1233882 + 1 := ⟨_, rfl⟩
                refine lv_iinc (v := x1233892) (lv' := [(5, .int x1233892), (4, .int y1116894), (0, .ref h), (1, .int a1), (2, .int b1), (3, .int vc)]) hx hb dX11_tornBy_262 hl (k := 0) rfl (by rw [ex1233892]; rfl) (by decide) rfl (fun ls hl => ?_)
                have k1233893 : Rg x1233892 1 550 := rg_add ex1233892 k1233889 (rg_lit (n := 1) (by decide)) (by decide)
                refine lv_goto (tgt := 240) hx hb dX11_tornBy_265 (by decide) ?_
                exact ih1233884 (x1233892, g1233891) _ _ _ (by show (550 - (x1233892).toInt).toNat < (550 - (y1233882).toInt).toNat; exact mu_up ex1233892 k1233889 k1233893 (by decide)) ⟨(hF7.trans (kIter_go (kC_eq rfl (kif_f (xF_le c1233885) (kLet_eq (ke_ldL ex1233890) (kLet_eq (ke_stL hg1233891) (kLet_eq (ti_add ex1233892 k1233889 (rg_lit (n := 1) (by decide)) (by decide) rfl rfl) rfl))))))), (rg_w k1233893 (by decide)), hP.sub (ws' := [(h, oX11 th aw ai ab ac hi re aP ta po en be de fa a5 sp av an ak ne aW aC ag aT aN aF), (aw, kcI cI 2179 fw), (aT, kcJ cJ 550 g1233891), (aN, kcJ cJ 550 g1233741)]) [0, 1, 2, 3] rfl, hD.sub (ws' := [(h, oX11 th aw ai ab ac hi re aP ta po en be de fa a5 sp av an ak ne aW aC ag aT aN aF), (aw, kcI cI 2179 fw), (aT, kcJ cJ 550 g1233891), (aN, kcJ cJ 550 g1233741)]) [0, 1, 2, 3] (by decide) rfl, hS, lv_sub (l' := [(5, .int x1233892), (4, .int y1116894), (0, .ref h), (1, .int a1), (2, .int b1), (3, .int vc)]) hl [0, 1, 2, 3, 4, 5] rfl⟩
            · skip
              have k1233894 : Rg y1233740 0 9 := rg_l1 (nleI c1233747) hy1233740 k509 (by decide)
              have k1233895 : Rg r507 1 10 := rg_l2 (nleI c1233747) hy1233740 k509 (by decide)
              refine lv_iconst (v := 0) hx hb dX11_tornBy_126 (by decide) ?_
              refine lv_istore (lv' := [(6, .int 0), (5, .int y1233740), (4, .int y1116894), (0, .ref h), (1, .int a1), (2, .int b1), (3, .int vc)]) hx hb dX11_tornBy_127 hl (by decide) rfl (fun ls hl => ?_)
              refine k_loop (hd := 129) (fun (u : Int32 × (Nat → Int64)) => match u with | (y1240786, g1240787) => (10 - (y1240786).toInt).toNat) (fun (u : Int32 × (Nat → Int64)) (H : Heap) (locs : List Loc) (ls : Array Slot) => match u with | (y1240786, g1240787) => (F_r_tornBy_l6_s (gT fw) vc.toInt r507.toInt y1116894.toInt g1116895 (y1233740.toInt, g1233741) = F_r_tornBy_l8 (gT fw) vc.toInt r507.toInt g1116895 y1233740.toInt (y1240786.toInt, g1240787)) ∧ Rg y1240786 0 10 ∧ va_P D vwCl [(h, oX11 th aw ai ab ac hi re aP ta po en be de fa a5 sp av an ak ne aW aC ag aT aN aF), (aw, kcI cI 2179 fw), (aT, kcJ cJ 550 g1116895), (aN, kcJ cJ 550 g1240787)] H ∧ va_D A [(h, oX11 th aw ai ab ac hi re aP ta po en be de fa a5 sp av an ak ne aW aC ag aT aN aF), (aw, kcI cI 2179 fw), (aT, kcJ cJ 550 g1116895), (aN, kcJ cJ 550 g1240787)] ∧ va_S A s.heap H locs ∧ lv_has ls 9 [(6, .int y1240786), (5, .int y1233740), (4, .int y1116894), (0, .ref h), (1, .int a1), (2, .int b1), (3, .int vc)]) ((0 : Int32), g1233741) ⟨(kC_eq rfl (kLet_eq (k1233746).symm (kif_f (xF_le c1233747) rfl))), (rg_w (rg_lit (n := 0) (by decide)) (by decide)), hP.sub (ws' := [(h, oX11 th aw ai ab ac hi re aP ta po en be de fa a5 sp av an ak ne aW aC ag aT aN aF), (aw, kcI cI 2179 fw), (aT, kcJ cJ 550 g1116895), (aN, kcJ cJ 550 g1233741)]) [0, 1, 2, 3] rfl, hD.sub (ws' := [(h, oX11 th aw ai ab ac hi re aP ta po en be de fa a5 sp av an ak ne aW aC ag aT aN aF), (aw, kcI cI 2179 fw), (aT, kcJ cJ 550 g1116895), (aN, kcJ cJ 550 g1233741)]) [0, 1, 2, 3] (by decide) rfl, hS, lv_sub (l' := [(6, .int 0), (5, .int y1233740), (4, .int y1116894), (0, .ref h), (1, .int a1), (2, .int b1), (3, .int vc)]) hl [0, 1, 2, 3, 4, 5, 6] rfl⟩ (fun u H locs ls hI ih1240788 => ?_)
              clear hP hD hS hl
              obtain ⟨y1240786, g1240787⟩ := u
              obtain ⟨hF8, hy1240786, hP, hD, hS, hl⟩ := hI
              have hP : va_P D vwCl [(h, oX11 th aw ai ab ac hi re aP ta po en be de fa a5 sp av an ak ne aW aC ag aT aN aF), (aw, kcI cI 2179 fw), (aT, kcJ cJ 550 g1116895), (aN, kcJ cJ 550 g1240787)] H := hP
              have hD : va_D A [(h, oX11 th aw ai ab ac hi re aP ta po en be de fa a5 sp av an ak ne aW aC ag aT aN aF), (aw, kcI cI 2179 fw), (aT, kcJ cJ 550 g1116895), (aN, kcJ cJ 550 g1240787)] := hD
              have hl : lv_has ls 9 [(6, .int y1240786), (5, .int y1233740), (4, .int y1116894), (0, .ref h), (1, .int a1), (2, .int b1), (3, .int vc)] := hl
              refine lv_iload hx hb dX11_tornBy_129 (lv_at hl 0 rfl) ?_
              refine lv_aload_n hx hb dX11_tornBy_131 rfl (lv_at hl 3 rfl) ?_
              refine kpurei (wc := [(h, oX11 th aw ai ab ac hi re aP ta po en be de fa a5 sp av an ak ne aW aC ag aT aN aF), (aw, kcI cI 2179 fw)]) hP hD hS hA [0, 1] rfl (by decide) (fun hPc hDc hFc => va_runV (As := []) (rest := [.int y1240786]) ⟨hx, hb, hml, hown, hts⟩ (r_men l D cI cJ cB cC h th aw ai ab ac hi re aP ta po en be de fa a5 sp av an ak ne aW aC ag aT aN aF fw H.size H_fw_W) (cwV 0 hts gX11_tornBy_X11_men rfl rfl rfl ⟨rfl, hdX11_men⟩ ⟨Nat.le_of_ble_eq_true rfl, Nat.le_of_ble_eq_true rfl⟩) ⟨kBlind, va_recv hK hPc (ci := 10) (q0 := 0) rfl rfl, fun U hU hW => ⟨rfl, by rw [hU], hN.warm hW, hE.pass hS hFc hW hU, by rw [hU]; exact hPc, va_K.moved hW.alike hK, hDc⟩⟩ rfl rfl hl.1 rfl (lv_room (Nat.le_of_ble_eq_true rfl)) dX11_tornBy_132 ⟨Nat.le_of_ble_eq_true rfl, Nat.le_of_ble_eq_true rfl⟩) (fun r1240789 u H locs hw hP hS => ?_)
              obtain ⟨k1240790, k1240791, k1240792⟩ := hw
              obtain rfl : r507 = r1240789 := k508.trans k1240790.symm
              refine lv_icmp_ge (tgt := 231) hx hb dX11_tornBy_135 (by decide) (fun c1240793 => ?_) (fun c1240793 => ?_)
              · skip
                have k1240794 : Rg y1240786 1 10 := rg_e2 (leI c1240793) k1233895 hy1240786 (by decide)
                obtain ⟨x1240795, ex1240795⟩ : ∃ y : Int32, y = y1233740 + 1 := ⟨_, rfl⟩
                refine lv_iinc (v := x1240795) (lv' := [(5, .int x1240795), (6, .int y1240786), (4, .int y1116894), (0, .ref h), (1, .int a1), (2, .int b1), (3, .int vc)]) hx hb dX11_tornBy_231 hl (k := 1) rfl (by rw [ex1240795]; rfl) (by decide) rfl (fun ls hl => ?_)
                have k1240796 : Rg x1240795 1 10 := rg_add ex1240795 k1233894 (rg_lit (n := 1) (by decide)) (by decide)
                refine lv_goto (tgt := 117) hx hb dX11_tornBy_234 (by decide) ?_
                exact ih1233742 (x1240795, g1240787) _ _ _ (by show (10 - (x1240795).toInt).toNat < (10 - (y1233740).toInt).toNat; exact mu_up ex1240795 k1233894 k1240796 (by decide)) ⟨(hF6.trans (kIter_go (hF8.trans (kIter_out (kC_eq rfl (kLet_eq (k1240792).symm (kif_t (leI c1240793) (kLet_eq (ti_add ex1240795 k1233894 (rg_lit (n := 1) (by decide)) (by decide) rfl rfl) rfl)))))))), (rg_w k1240796 (by decide)), hP.sub (ws' := [(h, oX11 th aw ai ab ac hi re aP ta po en be de fa a5 sp av an ak ne aW aC ag aT aN aF), (aw, kcI cI 2179 fw), (aT, kcJ cJ 550 g1116895), (aN, kcJ cJ 550 g1240787)]) [0, 1, 2, 3] rfl, hD.sub (ws' := [(h, oX11 th aw ai ab ac hi re aP ta po en be de fa a5 sp av an ak ne aW aC ag aT aN aF), (aw, kcI cI 2179 fw), (aT, kcJ cJ 550 g1116895), (aN, kcJ cJ 550 g1240787)]) [0, 1, 2, 3] (by decide) rfl, hS, lv_sub (l' := [(5, .int x1240795), (4, .int y1116894), (0, .ref h), (1, .int a1), (2, .int b1), (3, .int vc)]) hl [0, 2, 3, 4, 5, 6] rfl⟩
              · skip
                have k1240797 : Rg y1240786 0 9 := rg_l1 (nleI c1240793) hy1240786 k1233895 (by decide)
                refine lv_iload hx hb dX11_tornBy_138 (lv_at hl 1 rfl) ?_
                refine lv_iload hx hb dX11_tornBy_140 (lv_at hl 0 rfl) ?_
                refine k_join (hd := 225) (cells2 := 0) (slots2 := 0) (fun (g1241220 : (Nat → Int64)) => []) (fun (g1241220 : (Nat → Int64)) (H : Heap) (locs : List Loc) (ls : Array Slot) => (F_r_tornBy_l8_s (gT fw) vc.toInt r507.toInt g1116895 y1233740.toInt (y1240786.toInt, g1240787) = F_r_tornBy_j9 y1240786.toInt g1241220) ∧ va_P D vwCl [(h, oX11 th aw ai ab ac hi re aP ta po en be de fa a5 sp av an ak ne aW aC ag aT aN aF), (aw, kcI cI 2179 fw), (aT, kcJ cJ 550 g1116895), (aN, kcJ cJ 550 g1241220)] H ∧ va_D A [(h, oX11 th aw ai ab ac hi re aP ta po en be de fa a5 sp av an ak ne aW aC ag aT aN aF), (aw, kcI cI 2179 fw), (aT, kcJ cJ 550 g1116895), (aN, kcJ cJ 550 g1241220)] ∧ va_S A s.heap H locs ∧ lv_has ls 9 [(6, .int y1240786), (5, .int y1233740), (4, .int y1116894), (0, .ref h), (1, .int a1), (2, .int b1), (3, .int vc)]) (fun u H locs ls hI => ?_) (fun hJ225 => ?_)
                · skip
                  clear hP hD hS hl
                  obtain ⟨g1241220, rfl⟩ : ∃ z, z = u := ⟨_, rfl⟩
                  obtain ⟨hF9, hP, hD, hS, hl⟩ := hI
                  have hP : va_P D vwCl [(h, oX11 th aw ai ab ac hi re aP ta po en be de fa a5 sp av an ak ne aW aC ag aT aN aF), (aw, kcI cI 2179 fw), (aT, kcJ cJ 550 g1116895), (aN, kcJ cJ 550 g1241220)] H := hP
                  have hD : va_D A [(h, oX11 th aw ai ab ac hi re aP ta po en be de fa a5 sp av an ak ne aW aC ag aT aN aF), (aw, kcI cI 2179 fw), (aT, kcJ cJ 550 g1116895), (aN, kcJ cJ 550 g1241220)] := hD
                  have hl : lv_has ls 9 [(6, .int y1240786), (5, .int y1233740), (4, .int y1116894), (0, .ref h), (1, .int a1), (2, .int b1), (3, .int vc)] := hl
                  obtain ⟨x1241221, ex1241221⟩ : ∃ y : Int32, y = y1240786 + 1 := ⟨_, rfl⟩
                  refine lv_iinc (v := x1241221) (lv' := [(6, .int x1241221), (5, .int y1233740), (4, .int y1116894), (0, .ref h), (1, .int a1), (2, .int b1), (3, .int vc)]) hx hb dX11_tornBy_225 hl (k := 0) rfl (by rw [ex1241221]; rfl) (by decide) rfl (fun ls hl => ?_)
                  have k1241222 : Rg x1241221 1 10 := rg_add ex1241221 k1240797 (rg_lit (n := 1) (by decide)) (by decide)
                  refine lv_goto (tgt := 129) hx hb dX11_tornBy_228 (by decide) ?_
                  exact ih1240788 (x1241221, g1241220) _ _ _ (by show (10 - (x1241221).toInt).toNat < (10 - (y1240786).toInt).toNat; exact mu_up ex1241221 k1240797 k1241222 (by decide)) ⟨(hF8.trans (kIter_go (hF9.trans (kLet_eq (ti_add ex1241221 k1240797 (rg_lit (n := 1) (by decide)) (by decide) rfl rfl) rfl)))), (rg_w k1241222 (by decide)), hP.sub (ws' := [(h, oX11 th aw ai ab ac hi re aP ta po en be de fa a5 sp av an ak ne aW aC ag aT aN aF), (aw, kcI cI 2179 fw), (aT, kcJ cJ 550 g1116895), (aN, kcJ cJ 550 g1241220)]) [0, 1, 2, 3] rfl, hD.sub (ws' := [(h, oX11 th aw ai ab ac hi re aP ta po en be de fa a5 sp av an ak ne aW aC ag aT aN aF), (aw, kcI cI 2179 fw), (aT, kcJ cJ 550 g1116895), (aN, kcJ cJ 550 g1241220)]) [0, 1, 2, 3] (by decide) rfl, hS, lv_sub (l' := [(6, .int x1241221), (5, .int y1233740), (4, .int y1116894), (0, .ref h), (1, .int a1), (2, .int b1), (3, .int vc)]) hl [0, 1, 2, 3, 4, 5, 6] rfl⟩
                refine lv_icmp_eq (tgt := 225) hx hb dX11_tornBy_142 (by decide) (fun c1241223 => ?_) (fun c1241223 => ?_)
                · skip
                  exact hJ225 (g1240787) _ _ _ ⟨(kC_eq rfl (kLet_eq (k1240792).symm (kif_f (xF_le c1240793) (kif_t (eqI c1241223) rfl)))), hP.sub (ws' := [(h, oX11 th aw ai ab ac hi re aP ta po en be de fa a5 sp av an ak ne aW aC ag aT aN aF), (aw, kcI cI 2179 fw), (aT, kcJ cJ 550 g1116895), (aN, kcJ cJ 550 g1240787)]) [0, 1, 2, 3] rfl, hD.sub (ws' := [(h, oX11 th aw ai ab ac hi re aP ta po en be de fa a5 sp av an ak ne aW aC ag aT aN aF), (aw, kcI cI 2179 fw), (aT, kcJ cJ 550 g1116895), (aN, kcJ cJ 550 g1240787)]) [0, 1, 2, 3] (by decide) rfl, hS, lv_sub (l' := [(6, .int y1240786), (5, .int y1233740), (4, .int y1116894), (0, .ref h), (1, .int a1), (2, .int b1), (3, .int vc)]) hl [0, 1, 2, 3, 4, 5, 6] rfl⟩
                · skip
                  refine lv_iload hx hb dX11_tornBy_145 (lv_at hl 0 rfl) ?_
                  refine lv_iload_n hx hb dX11_tornBy_147 rfl (lv_at hl 6 rfl) ?_
                  refine lv_icmp_eq (tgt := 225) hx hb dX11_tornBy_148 (by decide) (fun c1241224 => ?_) (fun c1241224 => ?_)
                  · skip
                    have k1241225 : Rg vc 0 9 := rg_q2 (eqI c1241224) k1240797 (rg_any vc) (by decide)
                    exact hJ225 (g1240787) _ _ _ ⟨(kC_eq rfl (kLet_eq (k1240792).symm (kif_f (xF_le c1240793) (kif_f (neI c1241223) (kif_t (eqI c1241224) rfl))))), hP.sub (ws' := [(h, oX11 th aw ai ab ac hi re aP ta po en be de fa a5 sp av an ak ne aW aC ag aT aN aF), (aw, kcI cI 2179 fw), (aT, kcJ cJ 550 g1116895), (aN, kcJ cJ 550 g1240787)]) [0, 1, 2, 3] rfl, hD.sub (ws' := [(h, oX11 th aw ai ab ac hi re aP ta po en be de fa a5 sp av an ak ne aW aC ag aT aN aF), (aw, kcI cI 2179 fw), (aT, kcJ cJ 550 g1116895), (aN, kcJ cJ 550 g1240787)]) [0, 1, 2, 3] (by decide) rfl, hS, lv_sub (l' := [(6, .int y1240786), (5, .int y1233740), (4, .int y1116894), (0, .ref h), (1, .int a1), (2, .int b1), (3, .int vc)]) hl [0, 1, 2, 3, 4, 5, 6] rfl⟩
                  · skip
                    refine lv_aload_n hx hb dX11_tornBy_151 rfl (lv_at hl 3 rfl) ?_
                    refine lv_iload hx hb dX11_tornBy_152 (lv_at hl 1 rfl) ?_
                    refine lv_iload hx hb dX11_tornBy_154 (lv_at hl 0 rfl) ?_
                    refine kpurei (wc := [(h, oX11 th aw ai ab ac hi re aP ta po en be de fa a5 sp av an ak ne aW aC ag aT aN aF), (aw, kcI cI 2179 fw)]) hP hD hS hA [0, 1] rfl (by decide) (fun hPc hDc hFc => va_runV (As := [.int y1233740, .int y1240786]) (rest := []) ⟨hx, hb, hml, hown, hts⟩ (r_isNeighbour l D cI cJ cB cC h th aw ai ab ac hi re aP ta po en be de fa a5 sp av an ak ne aW aC ag aT aN aF fw y1233740 y1240786 H.size k1233894 k1240797 H_fw_W) (cwV 2 hts gX11_tornBy_X11_isNeighbour rfl rfl rfl ⟨rfl, hdX11_isNeighbour⟩ ⟨Nat.le_of_ble_eq_true rfl, Nat.le_of_ble_eq_true rfl⟩) ⟨kBlind, va_recv hK hPc (ci := 10) (q0 := 0) rfl rfl, fun U hU hW => ⟨rfl, by rw [hU], hN.warm hW, hE.pass hS hFc hW hU, by rw [hU]; exact hPc, va_K.moved hW.alike hK, hDc⟩⟩ rfl rfl hl.1 rfl (lv_room (Nat.le_of_ble_eq_true rfl)) dX11_tornBy_156 ⟨Nat.le_of_ble_eq_true rfl, Nat.le_of_ble_eq_true rfl⟩) (fun r1241226 u H locs hw hP hS => ?_)
                    obtain ⟨k1241227, hw⟩ := hw
                    rcases hw with rfl | rfl
                    · skip
                      refine lv_if_eq (tgt := 165) hx hb dX11_tornBy_159 (by decide) (fun _ => ?_) (fun c1241229 => absurd (by decide) c1241229)
                      refine lv_aload_n hx hb dX11_tornBy_165 rfl (lv_at hl 3 rfl) ?_
                      refine lv_iload hx hb dX11_tornBy_166 (lv_at hl 0 rfl) ?_
                      refine lv_iconst (v := 2) hx hb dX11_tornBy_168 (by decide) ?_
                      refine kpurei (wc := [(h, oX11 th aw ai ab ac hi re aP ta po en be de fa a5 sp av an ak ne aW aC ag aT aN aF), (aw, kcI cI 2179 fw)]) hP hD hS hA [0, 1] rfl (by decide) (fun hPc hDc hFc => va_runV (As := [.int y1240786, .int 2]) (rest := []) ⟨hx, hb, hml, hown, hts⟩ (r_ofMan2 l D cI cJ cB cC h th aw ai ab ac hi re aP ta po en be de fa a5 sp av an ak ne aW aC ag aT aN aF fw y1240786 H.size k1240797 H_fw_W) (cwV 2 hts gX11_tornBy_X11_ofMan rfl rfl rfl ⟨rfl, hdX11_ofMan⟩ ⟨Nat.le_of_ble_eq_true rfl, Nat.le_of_ble_eq_true rfl⟩) ⟨kBlind, va_recv hK hPc (ci := 10) (q0 := 0) rfl rfl, fun U hU hW => ⟨rfl, by rw [hU], hN.warm hW, hE.pass hS hFc hW hU, by rw [hU]; exact hPc, va_K.moved hW.alike hK, hDc⟩⟩ rfl rfl hl.1 rfl (lv_room (Nat.le_of_ble_eq_true rfl)) dX11_tornBy_169 ⟨Nat.le_of_ble_eq_true rfl, Nat.le_of_ble_eq_true rfl⟩) (fun r1241230 u H locs hw hP hS => ?_)
                      obtain ⟨k1241231, k1241232, k1241233⟩ := hw
                      refine lv_istore (lv' := [(7, .int r1241230), (6, .int y1240786), (5, .int y1233740), (4, .int y1116894), (0, .ref h), (1, .int a1), (2, .int b1), (3, .int vc)]) hx hb dX11_tornBy_172 hl (by decide) rfl (fun ls hl => ?_)
                      refine lv_iconst (v := 0) hx hb dX11_tornBy_174 (by decide) ?_
                      refine lv_istore (lv' := [(8, .int 0), (7, .int r1241230), (6, .int y1240786), (5, .int y1233740), (4, .int y1116894), (0, .ref h), (1, .int a1), (2, .int b1), (3, .int vc)]) hx hb dX11_tornBy_175 hl (by decide) rfl (fun ls hl => ?_)
                      refine k_loop (hd := 177) (fun (u : Int32 × (Nat → Int64)) => match u with | (y1241618, g1241619) => (55 - (y1241618).toInt).toNat) (fun (u : Int32 × (Nat → Int64)) (H : Heap) (locs : List Loc) (ls : Array Slot) => match u with | (y1241618, g1241619) => (F_r_tornBy_l8_s (gT fw) vc.toInt r507.toInt g1116895 y1233740.toInt (y1240786.toInt, g1240787) = F_r_tornBy_l10 g1116895 y1233740.toInt y1240786.toInt r1241230.toInt (y1241618.toInt, g1241619)) ∧ Rg y1241618 0 55 ∧ va_P D vwCl [(h, oX11 th aw ai ab ac hi re aP ta po en be de fa a5 sp av an ak ne aW aC ag aT aN aF), (aw, kcI cI 2179 fw), (aT, kcJ cJ 550 g1116895), (aN, kcJ cJ 550 g1241619)] H ∧ va_D A [(h, oX11 th aw ai ab ac hi re aP ta po en be de fa a5 sp av an ak ne aW aC ag aT aN aF), (aw, kcI cI 2179 fw), (aT, kcJ cJ 550 g1116895), (aN, kcJ cJ 550 g1241619)] ∧ va_S A s.heap H locs ∧ lv_has ls 9 [(8, .int y1241618), (7, .int r1241230), (6, .int y1240786), (5, .int y1233740), (4, .int y1116894), (0, .ref h), (1, .int a1), (2, .int b1), (3, .int vc)]) ((0 : Int32), g1240787) ⟨(kC_eq rfl (kLet_eq (k1240792).symm (kif_f (xF_le c1240793) (kif_f (neI c1241223) (kif_f (neI c1241224) (kLet_eq (k1241227).symm (kif_t rfl (kLet_eq (k1241233).symm rfl)))))))), (rg_w (rg_lit (n := 0) (by decide)) (by decide)), hP.sub (ws' := [(h, oX11 th aw ai ab ac hi re aP ta po en be de fa a5 sp av an ak ne aW aC ag aT aN aF), (aw, kcI cI 2179 fw), (aT, kcJ cJ 550 g1116895), (aN, kcJ cJ 550 g1240787)]) [0, 1, 2, 3] rfl, hD.sub (ws' := [(h, oX11 th aw ai ab ac hi re aP ta po en be de fa a5 sp av an ak ne aW aC ag aT aN aF), (aw, kcI cI 2179 fw), (aT, kcJ cJ 550 g1116895), (aN, kcJ cJ 550 g1240787)]) [0, 1, 2, 3] (by decide) rfl, hS, lv_sub (l' := [(8, .int 0), (7, .int r1241230), (6, .int y1240786), (5, .int y1233740), (4, .int y1116894), (0, .ref h), (1, .int a1), (2, .int b1), (3, .int vc)]) hl [0, 1, 2, 3, 4, 5, 6, 7, 8] rfl⟩ (fun u H locs ls hI ih1241620 => ?_)
                      clear hP hD hS hl
                      obtain ⟨y1241618, g1241619⟩ := u
                      obtain ⟨hF10, hy1241618, hP, hD, hS, hl⟩ := hI
                      have hP : va_P D vwCl [(h, oX11 th aw ai ab ac hi re aP ta po en be de fa a5 sp av an ak ne aW aC ag aT aN aF), (aw, kcI cI 2179 fw), (aT, kcJ cJ 550 g1116895), (aN, kcJ cJ 550 g1241619)] H := hP
                      have hD : va_D A [(h, oX11 th aw ai ab ac hi re aP ta po en be de fa a5 sp av an ak ne aW aC ag aT aN aF), (aw, kcI cI 2179 fw), (aT, kcJ cJ 550 g1116895), (aN, kcJ cJ 550 g1241619)] := hD
                      have hl : lv_has ls 9 [(8, .int y1241618), (7, .int r1241230), (6, .int y1240786), (5, .int y1233740), (4, .int y1116894), (0, .ref h), (1, .int a1), (2, .int b1), (3, .int vc)] := hl
                      refine lv_iload hx hb dX11_tornBy_177 (lv_at hl 0 rfl) ?_
                      refine lv_iload hx hb dX11_tornBy_179 (lv_at hl 1 rfl) ?_
                      refine lv_iadd hx hb dX11_tornBy_181 ?_
                      refine lv_topi (fun x1241621 ex1241621 => ?_)
                      have tx1241621 : x1241621.toInt = y1241618.toInt + r1241230.toInt := ti_add ex1241621 hy1241618 k1241232 (by decide) rfl rfl
                      have k1241622 : Rg x1241621 0 64 := rg_add ex1241621 hy1241618 k1241232 (by decide)
                      refine lv_bipush (v := 54) hx hb dX11_tornBy_182 (by decide) ?_
                      refine lv_icmp_gt (tgt := 225) hx hb dX11_tornBy_184 (by decide) (fun c1241623 => ?_) (fun c1241623 => ?_)
                      · skip
                        have k1241624 : Rg x1241621 55 64 := rg_l2 (ltI c1241623) (rg_lit (n := 54) (by decide)) k1241622 (by decide)
                        have k1241625 : Rg y1241618 46 55 := rg_backs ex1241621 hy1241618 k1241232 k1241624 (by decide)
                        exact hJ225 (g1241619) _ _ _ ⟨(hF10.trans (kIter_out (kC_eq rfl (kLet_eq (ti_add ex1241621 hy1241618 k1241232 (by decide) rfl rfl) (kif_t (ltI c1241623) rfl))))), hP.sub (ws' := [(h, oX11 th aw ai ab ac hi re aP ta po en be de fa a5 sp av an ak ne aW aC ag aT aN aF), (aw, kcI cI 2179 fw), (aT, kcJ cJ 550 g1116895), (aN, kcJ cJ 550 g1241619)]) [0, 1, 2, 3] rfl, hD.sub (ws' := [(h, oX11 th aw ai ab ac hi re aP ta po en be de fa a5 sp av an ak ne aW aC ag aT aN aF), (aw, kcI cI 2179 fw), (aT, kcJ cJ 550 g1116895), (aN, kcJ cJ 550 g1241619)]) [0, 1, 2, 3] (by decide) rfl, hS, lv_sub (l' := [(6, .int y1240786), (5, .int y1233740), (4, .int y1116894), (0, .ref h), (1, .int a1), (2, .int b1), (3, .int vc)]) hl [2, 3, 4, 5, 6, 7, 8] rfl⟩
                      · skip
                        have k1241626 : Rg x1241621 0 54 := rg_e1 (nltI c1241623) k1241622 (rg_lit (n := 54) (by decide)) (by decide)
                        have k1241627 : Rg y1241618 0 54 := rg_backs ex1241621 hy1241618 k1241232 k1241626 (by decide)
                        refine lv_aload_n hx hb dX11_tornBy_187 rfl (lv_at hl 5 rfl) ?_
                        refine va_get (D := D) (ci := 10) (v := .ref aN) (C := RX11) (T := TX11) (N := 26) hx hb hts iG_X11 hown hK hP 0 rfl rfl 24 (by decide) (hts _ w5_18) (fun _ h9 => h9) rfl dX11_tornBy_188 ?_
                        refine lv_bipush (v := 55) hx hb dX11_tornBy_191 (by decide) ?_
                        refine lv_iload hx hb dX11_tornBy_193 (lv_at hl 2 rfl) ?_
                        refine lv_imul hx hb dX11_tornBy_195 ?_
                        refine lv_topi (fun x1241628 ex1241628 => ?_)
                        have tx1241628 : x1241628.toInt = 55 * y1240786.toInt := ti_mul ex1241628 (rg_lit (n := 55) (by decide)) k1240797 (by decide) (by decide) rfl
                        have k1241629 : Rg x1241628 0 495 := rg_mul ex1241628 (rg_lit (n := 55) (by decide)) k1240797 (by decide)
                        refine lv_iload hx hb dX11_tornBy_196 (lv_at hl 0 rfl) ?_
                        refine lv_iadd hx hb dX11_tornBy_198 ?_
                        refine lv_topi (fun x1241630 ex1241630 => ?_)
                        have tx1241630 : x1241630.toInt = x1241628.toInt + y1241618.toInt := ti_add ex1241630 k1241629 k1241627 (by decide) rfl rfl
                        have k1241631 : Rg x1241630 0 549 := rg_add ex1241630 k1241629 k1241627 (by decide)
                        refine lv_iload hx hb dX11_tornBy_199 (lv_at hl 1 rfl) ?_
                        refine lv_iadd hx hb dX11_tornBy_201 ?_
                        refine lv_topi (fun x1241632 ex1241632 => ?_)
                        have tx1241632 : x1241632.toInt = x1241630.toInt + r1241230.toInt := ti_add ex1241632 k1241631 k1241232 (by decide) rfl rfl
                        have k1241633 : Rg x1241632 0 558 := rg_add ex1241632 k1241631 k1241232 (by decide)
                        have k1241634 : Rg x1241632 0 549 := (by have q1 := k1240797; have q2 := k1241627; have q3 := k1241232; have q4 := k1241626; unfold Rg at *; exact ⟨by omega, by omega⟩)
                        refine lv_dup2_11 hx hb dX11_tornBy_202 rfl rfl ?_
                        refine va_lald hx hb hK hP 3 1 rfl rfl (rg_in k1241634 (by decide)) dX11_tornBy_203 ?_
                        refine lv_topl (fun x1241635 ex1241635 => ?_)
                        refine lv_aload_n hx hb dX11_tornBy_204 rfl (lv_at hl 5 rfl) ?_
                        refine va_get (D := D) (ci := 10) (v := .ref aT) (C := RX11) (T := TX11) (N := 26) hx hb hts iG_X11 hown hK hP 0 rfl rfl 23 (by decide) (hts _ w5_17) (fun _ h9 => h9) rfl dX11_tornBy_205 ?_
                        refine lv_bipush (v := 55) hx hb dX11_tornBy_208 (by decide) ?_
                        refine lv_iload hx hb dX11_tornBy_210 (lv_at hl 3 rfl) ?_
                        refine lv_imul hx hb dX11_tornBy_212 ?_
                        refine lv_topi (fun x1241636 ex1241636 => ?_)
                        have tx1241636 : x1241636.toInt = 55 * y1233740.toInt := ti_mul ex1241636 (rg_lit (n := 55) (by decide)) k1233894 (by decide) (by decide) rfl
                        have k1241637 : Rg x1241636 0 495 := rg_mul ex1241636 (rg_lit (n := 55) (by decide)) k1233894 (by decide)
                        refine lv_iload hx hb dX11_tornBy_213 (lv_at hl 0 rfl) ?_
                        refine lv_iadd hx hb dX11_tornBy_215 ?_
                        refine lv_topi (fun x1241638 ex1241638 => ?_)
                        have tx1241638 : x1241638.toInt = x1241636.toInt + y1241618.toInt := ti_add ex1241638 k1241637 k1241627 (by decide) rfl rfl
                        have k1241639 : Rg x1241638 0 549 := rg_add ex1241638 k1241637 k1241627 (by decide)
                        refine va_lald hx hb hK hP 2 1 rfl rfl (rg_in k1241639 (by decide)) dX11_tornBy_216 ?_
                        refine lv_topl (fun x1241640 ex1241640 => ?_)
                        refine lv_ladd hx hb dX11_tornBy_217 ?_
                        refine lv_topl (fun x1241641 ex1241641 => ?_)
                        refine va_last hx hb hK hP hD hS 3 1 rfl rfl (rg_in k1241634 (by decide)) dX11_tornBy_218 (fun H locs hP hD hS => ?_)
                        have hP : va_P D vwCl [(h, oX11 th aw ai ab ac hi re aP ta po en be de fa a5 sp av an ak ne aW aC ag aT aN aF), (aw, kcI cI 2179 fw), (aT, kcJ cJ 550 g1116895), (aN, kcJ cJ 550 (vp_updL g1241619 x1241632.toNatClampNeg x1241641))] H := hP
                        have hD : va_D A [(h, oX11 th aw ai ab ac hi re aP ta po en be de fa a5 sp av an ak ne aW aC ag aT aN aF), (aw, kcI cI 2179 fw), (aT, kcJ cJ 550 g1116895), (aN, kcJ cJ 550 (vp_updL g1241619 x1241632.toNatClampNeg x1241641))] := hD
                        generalize hg1241642 : (vp_updL g1241619 x1241632.toNatClampNeg x1241641) = g1241642 at hP hD
                        obtain ⟨x1241643, ex1241643⟩ : ∃ y : Int32, y = y1241618 + 1 := ⟨_, rfl⟩
                        refine lv_iinc (v := x1241643) (lv' := [(8, .int x1241643), (7, .int r1241230), (6, .int y1240786), (5, .int y1233740), (4, .int y1116894), (0, .ref h), (1, .int a1), (2, .int b1), (3, .int vc)]) hx hb dX11_tornBy_219 hl (k := 0) rfl (by rw [ex1241643]; rfl) (by decide) rfl (fun ls hl => ?_)
                        have k1241644 : Rg x1241643 1 55 := rg_add ex1241643 k1241627 (rg_lit (n := 1) (by decide)) (by decide)
                        refine lv_goto (tgt := 177) hx hb dX11_tornBy_222 (by decide) ?_
                        exact ih1241620 (x1241643, g1241642) _ _ _ (by show (55 - (x1241643).toInt).toNat < (55 - (y1241618).toInt).toNat; exact mu_up ex1241643 k1241627 k1241644 (by decide)) ⟨(hF10.trans (kIter_go (kC_eq rfl (kLet_eq (ti_add ex1241621 hy1241618 k1241232 (by decide) rfl rfl) (kif_f (xF_lt c1241623) (kLet_eq (ti_mul ex1241628 (rg_lit (n := 55) (by decide)) k1240797 (by decide) rfl rfl) (kLet_eq (ti_add ex1241630 k1241629 k1241627 (by decide) rfl rfl) (kLet_eq (ti_add ex1241632 k1241631 k1241232 (by decide) rfl rfl) (kLet_eq (ke_ldL ex1241635) (kLet_eq (ti_mul ex1241636 (rg_lit (n := 55) (by decide)) k1233894 (by decide) rfl rfl) (kLet_eq (ti_add ex1241638 k1241637 k1241627 (by decide) rfl rfl) (kLet_eq (ke_ldL ex1241640) (kLet_eq ex1241641 (kLet_eq (ke_stL hg1241642) (kLet_eq (ti_add ex1241643 k1241627 (rg_lit (n := 1) (by decide)) (by decide) rfl rfl) rfl))))))))))))))), (rg_w k1241644 (by decide)), hP.sub (ws' := [(h, oX11 th aw ai ab ac hi re aP ta po en be de fa a5 sp av an ak ne aW aC ag aT aN aF), (aw, kcI cI 2179 fw), (aT, kcJ cJ 550 g1116895), (aN, kcJ cJ 550 g1241642)]) [0, 1, 2, 3] rfl, hD.sub (ws' := [(h, oX11 th aw ai ab ac hi re aP ta po en be de fa a5 sp av an ak ne aW aC ag aT aN aF), (aw, kcI cI 2179 fw), (aT, kcJ cJ 550 g1116895), (aN, kcJ cJ 550 g1241642)]) [0, 1, 2, 3] (by decide) rfl, hS, lv_sub (l' := [(8, .int x1241643), (7, .int r1241230), (6, .int y1240786), (5, .int y1233740), (4, .int y1116894), (0, .ref h), (1, .int a1), (2, .int b1), (3, .int vc)]) hl [0, 1, 2, 3, 4, 5, 6, 7, 8] rfl⟩
                    · skip
                      refine lv_if_eq (tgt := 165) hx hb dX11_tornBy_159 (by decide) (fun c1241645 => absurd c1241645 (by decide)) (fun _ => ?_)
                      refine lv_goto (tgt := 225) hx hb dX11_tornBy_162 (by decide) ?_
                      exact hJ225 (g1240787) _ _ _ ⟨(kC_eq rfl (kLet_eq (k1240792).symm (kif_f (xF_le c1240793) (kif_f (neI c1241223) (kif_f (neI c1241224) (kLet_eq (k1241227).symm (kif_f (by decide) rfl))))))), hP.sub (ws' := [(h, oX11 th aw ai ab ac hi re aP ta po en be de fa a5 sp av an ak ne aW aC ag aT aN aF), (aw, kcI cI 2179 fw), (aT, kcJ cJ 550 g1116895), (aN, kcJ cJ 550 g1240787)]) [0, 1, 2, 3] rfl, hD.sub (ws' := [(h, oX11 th aw ai ab ac hi re aP ta po en be de fa a5 sp av an ak ne aW aC ag aT aN aF), (aw, kcI cI 2179 fw), (aT, kcJ cJ 550 g1116895), (aN, kcJ cJ 550 g1240787)]) [0, 1, 2, 3] (by decide) rfl, hS, lv_sub (l' := [(6, .int y1240786), (5, .int y1233740), (4, .int y1116894), (0, .ref h), (1, .int a1), (2, .int b1), (3, .int vc)]) hl [0, 1, 2, 3, 4, 5, 6] rfl⟩
          · skip
            have k1241646 : Rg y1117303 0 549 := rg_l1 (nleI c1117306) hy1117303 (rg_lit (n := 550) (by decide)) (by decide)
            refine lv_aload_n hx hb dX11_tornBy_100 rfl (lv_at hl 2 rfl) ?_
            refine va_get (D := D) (ci := 10) (v := .ref aN) (C := RX11) (T := TX11) (N := 26) hx hb hts iG_X11 hown hK hP 0 rfl rfl 24 (by decide) (hts _ w5_18) (fun _ h9 => h9) rfl dX11_tornBy_101 ?_
            refine lv_iload hx hb dX11_tornBy_104 (lv_at hl 0 rfl) ?_
            refine lv_lconst (v := 0) hx hb dX11_tornBy_106 (by decide) ?_
            refine va_last hx hb hK hP hD hS 3 1 rfl rfl (rg_in k1241646 (by decide)) dX11_tornBy_107 (fun H locs hP hD hS => ?_)
            have hP : va_P D vwCl [(h, oX11 th aw ai ab ac hi re aP ta po en be de fa a5 sp av an ak ne aW aC ag aT aN aF), (aw, kcI cI 2179 fw), (aT, kcJ cJ 550 g1116895), (aN, kcJ cJ 550 (vp_updL g1117304 y1117303.toNatClampNeg 0))] H := hP
            have hD : va_D A [(h, oX11 th aw ai ab ac hi re aP ta po en be de fa a5 sp av an ak ne aW aC ag aT aN aF), (aw, kcI cI 2179 fw), (aT, kcJ cJ 550 g1116895), (aN, kcJ cJ 550 (vp_updL g1117304 y1117303.toNatClampNeg 0))] := hD
            generalize hg1241647 : (vp_updL g1117304 y1117303.toNatClampNeg 0) = g1241647 at hP hD
            obtain ⟨x1241648, ex1241648⟩ : ∃ y : Int32, y = y1117303 + 1 := ⟨_, rfl⟩
            refine lv_iinc (v := x1241648) (lv' := [(5, .int x1241648), (4, .int y1116894), (0, .ref h), (1, .int a1), (2, .int b1), (3, .int vc)]) hx hb dX11_tornBy_108 hl (k := 0) rfl (by rw [ex1241648]; rfl) (by decide) rfl (fun ls hl => ?_)
            have k1241649 : Rg x1241648 1 550 := rg_add ex1241648 k1241646 (rg_lit (n := 1) (by decide)) (by decide)
            refine lv_goto (tgt := 92) hx hb dX11_tornBy_111 (by decide) ?_
            exact ih1117305 (x1241648, g1241647) _ _ _ (by show (550 - (x1241648).toInt).toNat < (550 - (y1117303).toInt).toNat; exact mu_up ex1241648 k1241646 k1241649 (by decide)) ⟨(hF5.trans (kIter_go (kC_eq rfl (kif_f (xF_le c1117306) (kLet_eq (ke_stL hg1241647) (kLet_eq (ti_add ex1241648 k1241646 (rg_lit (n := 1) (by decide)) (by decide) rfl rfl) rfl)))))), (rg_w k1241649 (by decide)), hP.sub (ws' := [(h, oX11 th aw ai ab ac hi re aP ta po en be de fa a5 sp av an ak ne aW aC ag aT aN aF), (aw, kcI cI 2179 fw), (aT, kcJ cJ 550 g1116895), (aN, kcJ cJ 550 g1241647)]) [0, 1, 2, 3] rfl, hD.sub (ws' := [(h, oX11 th aw ai ab ac hi re aP ta po en be de fa a5 sp av an ak ne aW aC ag aT aN aF), (aw, kcI cI 2179 fw), (aT, kcJ cJ 550 g1116895), (aN, kcJ cJ 550 g1241647)]) [0, 1, 2, 3] (by decide) rfl, hS, lv_sub (l' := [(5, .int x1241648), (4, .int y1116894), (0, .ref h), (1, .int a1), (2, .int b1), (3, .int vc)]) hl [0, 1, 2, 3, 4, 5] rfl⟩
      · skip
        have k1241650 : Rg y504 0 9 := rg_l1 (nleI c511) hy504 k509 (by decide)
        have k1241651 : Rg r507 1 10 := rg_l2 (nleI c511) hy504 k509 (by decide)
        refine lv_aload_n hx hb dX11_tornBy_45 rfl (lv_at hl 1 rfl) ?_
        refine va_get (D := D) (ci := 10) (v := .ref aT) (C := RX11) (T := TX11) (N := 26) hx hb hts iG_X11 hown hK hP 0 rfl rfl 23 (by decide) (hts _ w5_17) (fun _ h9 => h9) rfl dX11_tornBy_46 ?_
        refine lv_bipush (v := 55) hx hb dX11_tornBy_49 (by decide) ?_
        refine lv_iload hx hb dX11_tornBy_51 (lv_at hl 0 rfl) ?_
        refine lv_imul hx hb dX11_tornBy_53 ?_
        refine lv_topi (fun x1241652 ex1241652 => ?_)
        have tx1241652 : x1241652.toInt = 55 * y504.toInt := ti_mul ex1241652 (rg_lit (n := 55) (by decide)) k1241650 (by decide) (by decide) rfl
        have k1241653 : Rg x1241652 0 495 := rg_mul ex1241652 (rg_lit (n := 55) (by decide)) k1241650 (by decide)
        refine lv_aload_n hx hb dX11_tornBy_54 rfl (lv_at hl 1 rfl) ?_
        refine lv_iload hx hb dX11_tornBy_55 (lv_at hl 0 rfl) ?_
        refine lv_iconst (v := 2) hx hb dX11_tornBy_57 (by decide) ?_
        refine kpurei (wc := [(h, oX11 th aw ai ab ac hi re aP ta po en be de fa a5 sp av an ak ne aW aC ag aT aN aF), (aw, kcI cI 2179 fw)]) hP hD hS hA [0, 1] rfl (by decide) (fun hPc hDc hFc => va_runV (As := [.int y504, .int 2]) (rest := [.int x1241652, .ref aT]) ⟨hx, hb, hml, hown, hts⟩ (r_ofMan2 l D cI cJ cB cC h th aw ai ab ac hi re aP ta po en be de fa a5 sp av an ak ne aW aC ag aT aN aF fw y504 H.size k1241650 H_fw_W) (cwV 2 hts gX11_tornBy_X11_ofMan rfl rfl rfl ⟨rfl, hdX11_ofMan⟩ ⟨Nat.le_of_ble_eq_true rfl, Nat.le_of_ble_eq_true rfl⟩) ⟨kBlind, va_recv hK hPc (ci := 10) (q0 := 0) rfl rfl, fun U hU hW => ⟨rfl, by rw [hU], hN.warm hW, hE.pass hS hFc hW hU, by rw [hU]; exact hPc, va_K.moved hW.alike hK, hDc⟩⟩ rfl rfl hl.1 rfl (lv_room (Nat.le_of_ble_eq_true rfl)) dX11_tornBy_58 ⟨Nat.le_of_ble_eq_true rfl, Nat.le_of_ble_eq_true rfl⟩) (fun r1241654 u H locs hw hP hS => ?_)
        obtain ⟨k1241655, k1241656, k1241657⟩ := hw
        refine lv_iadd hx hb dX11_tornBy_61 ?_
        refine lv_topi (fun x1241658 ex1241658 => ?_)
        have tx1241658 : x1241658.toInt = x1241652.toInt + r1241654.toInt := ti_add ex1241658 k1241653 k1241656 (by decide) rfl rfl
        have k1241659 : Rg x1241658 0 504 := rg_add ex1241658 k1241653 k1241656 (by decide)
        refine lv_iload hx hb dX11_tornBy_62 (lv_at hl 0 rfl) ?_
        refine lv_iload_n hx hb dX11_tornBy_64 rfl (lv_at hl 4 rfl) ?_
        refine k_join (hd := 73) (cells2 := 0) (slots2 := 0) (fun (u : Int64 × Int32) => match u with | (z1241664, z1241665) => [.long z1241664, .int z1241665, .ref aT]) (fun (u : Int64 × Int32) (H : Heap) (locs : List Loc) (ls : Array Slot) => match u with | (z1241664, z1241665) => (F_r_tornBy_l2_s (gT fw) fN a1.toInt b1.toInt vc.toInt (y504.toInt, g505) = F_r_tornBy_j11 y504.toInt g505 z1241664 z1241665.toInt) ∧ Rg z1241665 0 504 ∧ va_P D vwCl [(h, oX11 th aw ai ab ac hi re aP ta po en be de fa a5 sp av an ak ne aW aC ag aT aN aF), (aw, kcI cI 2179 fw), (aT, kcJ cJ 550 g505), (aN, kcJ cJ 550 fN)] H ∧ va_D A [(h, oX11 th aw ai ab ac hi re aP ta po en be de fa a5 sp av an ak ne aW aC ag aT aN aF), (aw, kcI cI 2179 fw), (aT, kcJ cJ 550 g505), (aN, kcJ cJ 550 fN)] ∧ va_S A s.heap H locs ∧ lv_has ls 9 [(4, .int y504), (0, .ref h), (1, .int a1), (2, .int b1), (3, .int vc)]) (fun u H locs ls hI => ?_) (fun hJ73 => ?_)
        · skip
          clear hP hD hS hl
          obtain ⟨z1241664, z1241665⟩ := u
          obtain ⟨hF11, hz1241665, hP, hD, hS, hl⟩ := hI
          have hP : va_P D vwCl [(h, oX11 th aw ai ab ac hi re aP ta po en be de fa a5 sp av an ak ne aW aC ag aT aN aF), (aw, kcI cI 2179 fw), (aT, kcJ cJ 550 g505), (aN, kcJ cJ 550 fN)] H := hP
          have hD : va_D A [(h, oX11 th aw ai ab ac hi re aP ta po en be de fa a5 sp av an ak ne aW aC ag aT aN aF), (aw, kcI cI 2179 fw), (aT, kcJ cJ 550 g505), (aN, kcJ cJ 550 fN)] := hD
          have hl : lv_has ls 9 [(4, .int y504), (0, .ref h), (1, .int a1), (2, .int b1), (3, .int vc)] := hl
          show W _ _ _ _ _ _ _ _ _ _ _ _ _ _ _ (F0 m 73 ls [.long z1241664, .int z1241665, .ref aT])
          refine va_last hx hb hK hP hD hS 2 1 rfl rfl (rg_in hz1241665 (by decide)) dX11_tornBy_73 (fun H locs hP hD hS => ?_)
          have hP : va_P D vwCl [(h, oX11 th aw ai ab ac hi re aP ta po en be de fa a5 sp av an ak ne aW aC ag aT aN aF), (aw, kcI cI 2179 fw), (aT, kcJ cJ 550 (vp_updL g505 z1241665.toNatClampNeg z1241664)), (aN, kcJ cJ 550 fN)] H := hP
          have hD : va_D A [(h, oX11 th aw ai ab ac hi re aP ta po en be de fa a5 sp av an ak ne aW aC ag aT aN aF), (aw, kcI cI 2179 fw), (aT, kcJ cJ 550 (vp_updL g505 z1241665.toNatClampNeg z1241664)), (aN, kcJ cJ 550 fN)] := hD
          generalize hg1241666 : (vp_updL g505 z1241665.toNatClampNeg z1241664) = g1241666 at hP hD
          obtain ⟨x1241667, ex1241667⟩ : ∃ y : Int32, y = y504 + 1 := ⟨_, rfl⟩
          refine lv_iinc (v := x1241667) (lv' := [(4, .int x1241667), (0, .ref h), (1, .int a1), (2, .int b1), (3, .int vc)]) hx hb dX11_tornBy_74 hl (k := 0) rfl (by rw [ex1241667]; rfl) (by decide) rfl (fun ls hl => ?_)
          have k1241668 : Rg x1241667 1 10 := rg_add ex1241667 k1241650 (rg_lit (n := 1) (by decide)) (by decide)
          refine lv_goto (tgt := 36) hx hb dX11_tornBy_77 (by decide) ?_
          exact ih506 (x1241667, g1241666) _ _ _ (by show (10 - (x1241667).toInt).toNat < (10 - (y504).toInt).toNat; exact mu_up ex1241667 k1241650 k1241668 (by decide)) ⟨(hF2.trans (kIter_go (hF11.trans (kLet_eq (ke_stL hg1241666) (kLet_eq (ti_add ex1241667 k1241650 (rg_lit (n := 1) (by decide)) (by decide) rfl rfl) rfl))))), (rg_w k1241668 (by decide)), hP.sub (ws' := [(h, oX11 th aw ai ab ac hi re aP ta po en be de fa a5 sp av an ak ne aW aC ag aT aN aF), (aw, kcI cI 2179 fw), (aT, kcJ cJ 550 g1241666), (aN, kcJ cJ 550 fN)]) [0, 1, 2, 3] rfl, hD.sub (ws' := [(h, oX11 th aw ai ab ac hi re aP ta po en be de fa a5 sp av an ak ne aW aC ag aT aN aF), (aw, kcI cI 2179 fw), (aT, kcJ cJ 550 g1241666), (aN, kcJ cJ 550 fN)]) [0, 1, 2, 3] (by decide) rfl, hS, lv_sub (l' := [(4, .int x1241667), (0, .ref h), (1, .int a1), (2, .int b1), (3, .int vc)]) hl [0, 1, 2, 3, 4] rfl⟩
        refine lv_icmp_ne (tgt := 72) hx hb dX11_tornBy_65 (by decide) (fun c1241669 => ?_) (fun c1241669 => ?_)
        · skip
          refine lv_lconst (v := 1) hx hb dX11_tornBy_72 (by decide) ?_
          exact hJ73 ((1 : Int64), x1241658) _ _ _ ⟨(kC_eq rfl (kLet_eq (k510).symm (kif_f (xF_le c511) (kLet_eq (ti_mul ex1241652 (rg_lit (n := 55) (by decide)) k1241650 (by decide) rfl rfl) (kLet_eq (k1241657).symm (kLet_eq (ti_add ex1241658 k1241653 k1241656 (by decide) rfl rfl) (kif_f (neI c1241669) rfl))))))), k1241659, hP.sub (ws' := [(h, oX11 th aw ai ab ac hi re aP ta po en be de fa a5 sp av an ak ne aW aC ag aT aN aF), (aw, kcI cI 2179 fw), (aT, kcJ cJ 550 g505), (aN, kcJ cJ 550 fN)]) [0, 1, 2, 3] rfl, hD.sub (ws' := [(h, oX11 th aw ai ab ac hi re aP ta po en be de fa a5 sp av an ak ne aW aC ag aT aN aF), (aw, kcI cI 2179 fw), (aT, kcJ cJ 550 g505), (aN, kcJ cJ 550 fN)]) [0, 1, 2, 3] (by decide) rfl, hS, lv_sub (l' := [(4, .int y504), (0, .ref h), (1, .int a1), (2, .int b1), (3, .int vc)]) hl [0, 1, 2, 3, 4] rfl⟩
        · skip
          have k1241670 : Rg vc 0 9 := rg_q2 (eqI c1241669) k1241650 (rg_any vc) (by decide)
          refine lv_lconst (v := 0) hx hb dX11_tornBy_68 (by decide) ?_
          refine lv_goto (tgt := 73) hx hb dX11_tornBy_69 (by decide) ?_
          exact hJ73 ((0 : Int64), x1241658) _ _ _ ⟨(kC_eq rfl (kLet_eq (k510).symm (kif_f (xF_le c511) (kLet_eq (ti_mul ex1241652 (rg_lit (n := 55) (by decide)) k1241650 (by decide) rfl rfl) (kLet_eq (k1241657).symm (kLet_eq (ti_add ex1241658 k1241653 k1241656 (by decide) rfl rfl) (kif_t (eqI c1241669) rfl))))))), k1241659, hP.sub (ws' := [(h, oX11 th aw ai ab ac hi re aP ta po en be de fa a5 sp av an ak ne aW aC ag aT aN aF), (aw, kcI cI 2179 fw), (aT, kcJ cJ 550 g505), (aN, kcJ cJ 550 fN)]) [0, 1, 2, 3] rfl, hD.sub (ws' := [(h, oX11 th aw ai ab ac hi re aP ta po en be de fa a5 sp av an ak ne aW aC ag aT aN aF), (aw, kcI cI 2179 fw), (aT, kcJ cJ 550 g505), (aN, kcJ cJ 550 fN)]) [0, 1, 2, 3] (by decide) rfl, hS, lv_sub (l' := [(4, .int y504), (0, .ref h), (1, .int a1), (2, .int b1), (3, .int vc)]) hl [0, 1, 2, 3, 4] rfl⟩
    · skip
      have k1241671 : Rg y121 0 549 := rg_l1 (nleI c124) hy121 (rg_lit (n := 550) (by decide)) (by decide)
      refine lv_aload_n hx hb dX11_tornBy_19 rfl (lv_at hl 1 rfl) ?_
      refine va_get (D := D) (ci := 10) (v := .ref aT) (C := RX11) (T := TX11) (N := 26) hx hb hts iG_X11 hown hK hP 0 rfl rfl 23 (by decide) (hts _ w5_17) (fun _ h9 => h9) rfl dX11_tornBy_20 ?_
      refine lv_iload hx hb dX11_tornBy_23 (lv_at hl 0 rfl) ?_
      refine lv_lconst (v := 0) hx hb dX11_tornBy_25 (by decide) ?_
      refine va_last hx hb hK hP hD hS 2 1 rfl rfl (rg_in k1241671 (by decide)) dX11_tornBy_26 (fun H locs hP hD hS => ?_)
      have hP : va_P D vwCl [(h, oX11 th aw ai ab ac hi re aP ta po en be de fa a5 sp av an ak ne aW aC ag aT aN aF), (aw, kcI cI 2179 fw), (aT, kcJ cJ 550 (vp_updL g122 y121.toNatClampNeg 0)), (aN, kcJ cJ 550 fN)] H := hP
      have hD : va_D A [(h, oX11 th aw ai ab ac hi re aP ta po en be de fa a5 sp av an ak ne aW aC ag aT aN aF), (aw, kcI cI 2179 fw), (aT, kcJ cJ 550 (vp_updL g122 y121.toNatClampNeg 0)), (aN, kcJ cJ 550 fN)] := hD
      generalize hg1241672 : (vp_updL g122 y121.toNatClampNeg 0) = g1241672 at hP hD
      obtain ⟨x1241673, ex1241673⟩ : ∃ y : Int32, y = y121 + 1 := ⟨_, rfl⟩
      refine lv_iinc (v := x1241673) (lv' := [(4, .int x1241673), (0, .ref h), (1, .int a1), (2, .int b1), (3, .int vc)]) hx hb dX11_tornBy_27 hl (k := 0) rfl (by rw [ex1241673]; rfl) (by decide) rfl (fun ls hl => ?_)
      have k1241674 : Rg x1241673 1 550 := rg_add ex1241673 k1241671 (rg_lit (n := 1) (by decide)) (by decide)
      refine lv_goto (tgt := 11) hx hb dX11_tornBy_30 (by decide) ?_
      exact ih123 (x1241673, g1241672) _ _ _ (by show (550 - (x1241673).toInt).toNat < (550 - (y121).toInt).toNat; exact mu_up ex1241673 k1241671 k1241674 (by decide)) ⟨(hF1.trans (kIter_go (kC_eq rfl (kif_f (xF_le c124) (kLet_eq (ke_stL hg1241672) (kLet_eq (ti_add ex1241673 k1241671 (rg_lit (n := 1) (by decide)) (by decide) rfl rfl) rfl)))))), (rg_w k1241674 (by decide)), hP.sub (ws' := [(h, oX11 th aw ai ab ac hi re aP ta po en be de fa a5 sp av an ak ne aW aC ag aT aN aF), (aw, kcI cI 2179 fw), (aT, kcJ cJ 550 g1241672), (aN, kcJ cJ 550 fN)]) [0, 1, 2, 3] rfl, hD.sub (ws' := [(h, oX11 th aw ai ab ac hi re aP ta po en be de fa a5 sp av an ak ne aW aC ag aT aN aF), (aw, kcI cI 2179 fw), (aT, kcJ cJ 550 g1241672), (aN, kcJ cJ 550 fN)]) [0, 1, 2, 3] (by decide) rfl, hS, lv_sub (l' := [(4, .int x1241673), (0, .ref h), (1, .int a1), (2, .int b1), (3, .int vc)]) hl [0, 1, 2, 3, 4] rfl⟩
  · skip
    have k1241675 : Rg a1 55 2147483647 := rg_l2 (nleI c1) (rg_lit (n := 54) (by decide)) H_a1 (by decide)
    refine lv_lconst (v := 0) hx hb dX11_tornBy_6 (by decide) ?_
    have hP9 := hP.sub (ws' := [(h, oX11 th aw ai ab ac hi re aP ta po en be de fa a5 sp av an ak ne aW aC ag aT aN aF), (aw, kcI cI 2179 fw), (aT, kcJ cJ 550 fT), (aN, kcJ cJ 550 fN)]) [0, 1, 2, 3] rfl
    have hD9 := hD.sub (ws' := [(h, oX11 th aw ai ab ac hi re aP ta po en be de fa a5 sp av an ak ne aW aC ag aT aN aF), (aw, kcI cI 2179 fw), (aT, kcJ cJ 550 fT), (aN, kcJ cJ 550 fN)]) [0, 1, 2, 3] (by decide) rfl
    exact W.lret (v := 0) hx hb hr (fun t ht hW => ⟨⟨0, (fT, fN), rfl, (kif_f (xF_le c1) rfl), by rw [ht]; exact hP9, va_K.moved hW.alike hK, hD9⟩, hS.F ht⟩) hS.2.2 dX11_tornBy_7

def kwX11_tore : List Cond := .code yX11_tore cX11_tore 11 (some .long) :: kG
theorem hdX11_tore : yX11_tore.cls ≠ "java/lang/invoke/MethodHandle" ∧ yX11_tore.cls ≠ "java/lang/invoke/VarHandle" ∧ (parseMethodDescriptor yX11_tore.desc).map (fun d => d.parameters.length) = some 3 := by decide +kernel
theorem gX11_tore_X11_in : GoodIn kG (va_wsS RX11 75 yX11_in kwX11_in) := gK w27_8 (gK w27_9 (gK w0_5 (gK w27_10 gGG)))
theorem gX11_tore_X11_men : GoodIn kG (wsV RX11 71 RX11 yX11_men kwX11_men) := gK w19_17 (gK w19_18 (gK w19_19 (gK w0_5 (gK w19_20 gGG))))
theorem gX11_tore_X11_throwsIf : GoodIn kG (wsV RX11 258 RX11 yX11_throwsIf kwX11_throwsIf) := gK w23_6 (gK w23_7 (gK w23_8 (gK w0_5 (gK w23_9 gGG))))
theorem gX11_tore_X11_tornBy : GoodIn kG (wsV RX11 349 RX11 yX11_tornBy kwX11_tornBy) := gK w47_23 (gK w48_0 (gK w48_1 (gK w0_5 (gK w48_2 gGG))))
theorem dX11_tore_0 : decode cX11_tore 0 = .ok (.aload_n 0, 1) := by decide +kernel
theorem dX11_tore_1 : decode cX11_tore 1 = .ok (.iconst 0, 1) := by decide +kernel
theorem dX11_tore_2 : decode cX11_tore 2 = .ok (.putfield 3, 3) := by decide +kernel
theorem dX11_tore_5 : decode cX11_tore 5 = .ok (.aload_n 0, 1) := by decide +kernel
theorem dX11_tore_6 : decode cX11_tore 6 = .ok (.iload_n 3, 1) := by decide +kernel
theorem dX11_tore_7 : decode cX11_tore 7 = .ok (.iconst 0, 1) := by decide +kernel
theorem dX11_tore_8 : decode cX11_tore 8 = .ok (.iconst 2, 1) := by decide +kernel
theorem dX11_tore_9 : decode cX11_tore 9 = .ok (.invokestatic 75, 3) := by decide +kernel
theorem dX11_tore_12 : decode cX11_tore 12 = .ok (.ifCond .ne 7, 3) := by decide +kernel
theorem dX11_tore_15 : decode cX11_tore 15 = .ok (.iconst 1, 1) := by decide +kernel
theorem dX11_tore_16 : decode cX11_tore 16 = .ok (.goto 4, 3) := by decide +kernel
theorem dX11_tore_19 : decode cX11_tore 19 = .ok (.iconst 0, 1) := by decide +kernel
theorem dX11_tore_20 : decode cX11_tore 20 = .ok (.iconst 1, 1) := by decide +kernel
theorem dX11_tore_21 : decode cX11_tore 21 = .ok (.invokevirtual 258, 3) := by decide +kernel
theorem dX11_tore_24 : decode cX11_tore 24 = .ok (.ifCond .ne 30, 3) := by decide +kernel
theorem dX11_tore_27 : decode cX11_tore 27 = .ok (.aload_n 0, 1) := by decide +kernel
theorem dX11_tore_28 : decode cX11_tore 28 = .ok (.iload_n 1, 1) := by decide +kernel
theorem dX11_tore_29 : decode cX11_tore 29 = .ok (.ifCond .lt 13, 3) := by decide +kernel
theorem dX11_tore_32 : decode cX11_tore 32 = .ok (.iload_n 2, 1) := by decide +kernel
theorem dX11_tore_33 : decode cX11_tore 33 = .ok (.iconst 1, 1) := by decide +kernel
theorem dX11_tore_34 : decode cX11_tore 34 = .ok (.bipush 6, 2) := by decide +kernel
theorem dX11_tore_36 : decode cX11_tore 36 = .ok (.invokestatic 75, 3) := by decide +kernel
theorem dX11_tore_39 : decode cX11_tore 39 = .ok (.ifCond .ne 7, 3) := by decide +kernel
theorem dX11_tore_42 : decode cX11_tore 42 = .ok (.iconst 1, 1) := by decide +kernel
theorem dX11_tore_43 : decode cX11_tore 43 = .ok (.goto 4, 3) := by decide +kernel
theorem dX11_tore_46 : decode cX11_tore 46 = .ok (.iconst 0, 1) := by decide +kernel
theorem dX11_tore_47 : decode cX11_tore 47 = .ok (.iconst 2, 1) := by decide +kernel
theorem dX11_tore_48 : decode cX11_tore 48 = .ok (.invokevirtual 258, 3) := by decide +kernel
theorem dX11_tore_51 : decode cX11_tore 51 = .ok (.ifCond .eq 5, 3) := by decide +kernel
theorem dX11_tore_54 : decode cX11_tore 54 = .ok (.lconst 0, 1) := by decide +kernel
theorem dX11_tore_55 : decode cX11_tore 55 = .ok (.lreturn, 1) := by decide +kernel
theorem dX11_tore_56 : decode cX11_tore 56 = .ok (.aload_n 0, 1) := by decide +kernel
theorem dX11_tore_57 : decode cX11_tore 57 = .ok (.iload_n 1, 1) := by decide +kernel
theorem dX11_tore_58 : decode cX11_tore 58 = .ok (.iload_n 2, 1) := by decide +kernel
theorem dX11_tore_59 : decode cX11_tore 59 = .ok (.iconst (-1), 1) := by decide +kernel
theorem dX11_tore_60 : decode cX11_tore 60 = .ok (.invokevirtual 349, 3) := by decide +kernel
theorem dX11_tore_63 : decode cX11_tore 63 = .ok (.lstore 4, 2) := by decide +kernel
theorem dX11_tore_65 : decode cX11_tore 65 = .ok (.iload_n 3, 1) := by decide +kernel
theorem dX11_tore_66 : decode cX11_tore 66 = .ok (.ifCond .ne 6, 3) := by decide +kernel
theorem dX11_tore_69 : decode cX11_tore 69 = .ok (.lload 4, 2) := by decide +kernel
theorem dX11_tore_71 : decode cX11_tore 71 = .ok (.lreturn, 1) := by decide +kernel
theorem dX11_tore_72 : decode cX11_tore 72 = .ok (.lconst 0, 1) := by decide +kernel
theorem dX11_tore_73 : decode cX11_tore 73 = .ok (.lstore 6, 2) := by decide +kernel
theorem dX11_tore_75 : decode cX11_tore 75 = .ok (.iconst 0, 1) := by decide +kernel
theorem dX11_tore_76 : decode cX11_tore 76 = .ok (.istore 8, 2) := by decide +kernel
theorem dX11_tore_78 : decode cX11_tore 78 = .ok (.iload 8, 2) := by decide +kernel
theorem dX11_tore_80 : decode cX11_tore 80 = .ok (.aload_n 0, 1) := by decide +kernel
theorem dX11_tore_81 : decode cX11_tore 81 = .ok (.invokevirtual 71, 3) := by decide +kernel
theorem dX11_tore_84 : decode cX11_tore 84 = .ok (.if_icmp .ge 70, 3) := by decide +kernel
theorem dX11_tore_87 : decode cX11_tore 87 = .ok (.aload_n 0, 1) := by decide +kernel
theorem dX11_tore_88 : decode cX11_tore 88 = .ok (.iload_n 1, 1) := by decide +kernel
theorem dX11_tore_89 : decode cX11_tore 89 = .ok (.iload_n 2, 1) := by decide +kernel
theorem dX11_tore_90 : decode cX11_tore 90 = .ok (.iload 8, 2) := by decide +kernel
theorem dX11_tore_92 : decode cX11_tore 92 = .ok (.invokevirtual 349, 3) := by decide +kernel
theorem dX11_tore_95 : decode cX11_tore 95 = .ok (.lstore 9, 2) := by decide +kernel
theorem dX11_tore_97 : decode cX11_tore 97 = .ok (.lload 6, 2) := by decide +kernel
theorem dX11_tore_99 : decode cX11_tore 99 = .ok (.iload_n 3, 1) := by decide +kernel
theorem dX11_tore_100 : decode cX11_tore 100 = .ok (.iconst 1, 1) := by decide +kernel
theorem dX11_tore_101 : decode cX11_tore 101 = .ok (.if_icmp .ne 28, 3) := by decide +kernel
theorem dX11_tore_104 : decode cX11_tore 104 = .ok (.lload 4, 2) := by decide +kernel
theorem dX11_tore_106 : decode cX11_tore 106 = .ok (.lconst 0, 1) := by decide +kernel
theorem dX11_tore_107 : decode cX11_tore 107 = .ok (.lcmp, 1) := by decide +kernel
theorem dX11_tore_108 : decode cX11_tore 108 = .ok (.ifCond .le 17, 3) := by decide +kernel
theorem dX11_tore_111 : decode cX11_tore 111 = .ok (.lload 9, 2) := by decide +kernel
theorem dX11_tore_113 : decode cX11_tore 113 = .ok (.lconst 0, 1) := by decide +kernel
theorem dX11_tore_114 : decode cX11_tore 114 = .ok (.lcmp, 1) := by decide +kernel
theorem dX11_tore_115 : decode cX11_tore 115 = .ok (.ifCond .ne 10, 3) := by decide +kernel
theorem dX11_tore_118 : decode cX11_tore 118 = .ok (.lconst 1, 1) := by decide +kernel
theorem dX11_tore_119 : decode cX11_tore 119 = .ok (.iload 8, 2) := by decide +kernel
theorem dX11_tore_121 : decode cX11_tore 121 = .ok (.lshl, 1) := by decide +kernel
theorem dX11_tore_122 : decode cX11_tore 122 = .ok (.goto 23, 3) := by decide +kernel
theorem dX11_tore_125 : decode cX11_tore 125 = .ok (.lconst 0, 1) := by decide +kernel
theorem dX11_tore_126 : decode cX11_tore 126 = .ok (.goto 19, 3) := by decide +kernel
theorem dX11_tore_129 : decode cX11_tore 129 = .ok (.lload 9, 2) := by decide +kernel
theorem dX11_tore_131 : decode cX11_tore 131 = .ok (.lload 4, 2) := by decide +kernel
theorem dX11_tore_133 : decode cX11_tore 133 = .ok (.lcmp, 1) := by decide +kernel
theorem dX11_tore_134 : decode cX11_tore 134 = .ok (.ifCond .ge 10, 3) := by decide +kernel
theorem dX11_tore_137 : decode cX11_tore 137 = .ok (.lconst 1, 1) := by decide +kernel
theorem dX11_tore_138 : decode cX11_tore 138 = .ok (.iload 8, 2) := by decide +kernel
theorem dX11_tore_140 : decode cX11_tore 140 = .ok (.lshl, 1) := by decide +kernel
theorem dX11_tore_141 : decode cX11_tore 141 = .ok (.goto 4, 3) := by decide +kernel
theorem dX11_tore_144 : decode cX11_tore 144 = .ok (.lconst 0, 1) := by decide +kernel
theorem dX11_tore_145 : decode cX11_tore 145 = .ok (.lor, 1) := by decide +kernel
theorem dX11_tore_146 : decode cX11_tore 146 = .ok (.lstore 6, 2) := by decide +kernel
theorem dX11_tore_148 : decode cX11_tore 148 = .ok (.iinc 8 1, 3) := by decide +kernel
theorem dX11_tore_151 : decode cX11_tore 151 = .ok (.goto (-73), 3) := by decide +kernel
theorem dX11_tore_154 : decode cX11_tore 154 = .ok (.lload 6, 2) := by decide +kernel
theorem dX11_tore_156 : decode cX11_tore 156 = .ok (.lreturn, 1) := by decide +kernel
set_option maxHeartbeats 4000000 in
set_option maxRecDepth 100000 in
/-- reference: tore -/
theorem r_tore (l : Launch) (D : va_G) (cI cJ cB cC : ClassId) (h : Nat) (th : Int32) (aw : Nat) (ai : Nat) (ab : Nat) (ac : Nat) (hi : Int32) (re : Int32) (aP : Nat) (ta : Int32) (po : Int32) (en : Int32) (be : Int32) (de : Int32) (fa : Int32) (a5 : Nat) (sp : Int32) (av : Nat) (an : Nat) (ak : Nat) (ne : Int32) (aW : Nat) (aC : Nat) (ag : Nat) (aT : Nat) (aN : Nat) (aF : Nat) (fw : Nat → Int32) (fT : Nat → Int64) (fN : Nat → Int64) (a1 : Int32) (b1 : Int32) (c1 : Int32) (sz : Nat) (H_fw_W : wW fw) : Met l yX11_tore kwX11_tore ({ frames := 3, cells := 0, slots := 0, locals := 72 } : Room) (kPre D (kT cI cJ cB cC) sz [(h, oX11 th aw ai ab ac hi re aP ta po en be de fa a5 sp av an ak ne aW aC ag aT aN aF), (aw, kcI cI 2179 fw), (aT, kcJ cJ 550 fT), (aN, kcJ cJ 550 fN)] [.ref h, .int a1, .int b1, .int c1]) (va_Ql (fun (r : Int64) (uu : Int32 × (Nat → Int64) × (Nat → Int64)) => match uu with | (n0_, f1_, f2_) => F_r_tore (gT fw) fT fN (a1 : Int32).toInt (b1 : Int32).toInt (c1 : Int32).toInt = (r, (n0_ : Int32).toInt, f1_, f2_)) (fun (uu : Int32 × (Nat → Int64) × (Nat → Int64)) (t : State) => match uu with | (n0_, f1_, f2_) => kB D (kT cI cJ cB cC) (va_A [(h, oX11 th aw ai ab ac hi re aP ta po en be de fa a5 sp av an ak ne aW aC ag aT aN aF), (aw, kcI cI 2179 fw), (aT, kcJ cJ 550 fT), (aN, kcJ cJ 550 fN)] sz) [(h, oX11 n0_ aw ai ab ac hi re aP ta po en be de fa a5 sp av an ak ne aW aC ag aT aN aF), (aw, kcI cI 2179 fw), (aT, kcJ cJ 550 f1_), (aN, kcJ cJ 550 f2_)] t) (va_A [(h, oX11 th aw ai ab ac hi re aP ta po en be de fa a5 sp av an ak ne aW aC ag aT aN aF), (aw, kcI cI 2179 fw), (aT, kcJ cJ 550 fT), (aN, kcJ cJ 550 fN)] sz)) 0 0 (va_A [(h, oX11 th aw ai ab ac hi re aP ta po en be de fa a5 sp av an ak ne aW aC ag aT aN aF), (aw, kcI cI 2179 fw), (aT, kcJ cJ 550 fT), (aN, kcJ cJ 550 fN)] sz) := by
  refine Met.ofW (cc := cX11_tore) (maxL := 11) (ret := (some .long)) (by decide) rfl ?_
  intro p e s m args below meth c s₁ B hml hv
  obtain ⟨rfl, hsz, hN, hE, hP, hK, hD0⟩ := hv
  have hx := B.exec
  have hb := B.bytes
  have hr := B.returns
  have hts := fun (w : Cond) (h : w ∈ kG) => atoms_spec (ws := kwX11_tore) B.pre w (List.mem_cons_of_mem _ h)
  have hown : s.vm.findClass RX11 = some m.cls := findClass_of_methodNamed B.named
  subst hsz
  have hD := hD0.self (sz := s.heap.size)
  generalize hAe : va_A [(h, oX11 th aw ai ab ac hi re aP ta po en be de fa a5 sp av an ak ne aW aC ag aT aN aF), (aw, kcI cI 2179 fw), (aT, kcJ cJ 550 fT), (aN, kcJ cJ 550 fN)] s.heap.size = A at hD hE ⊢
  have hA : ∀ q : Nat, s.heap.size ≤ q → A q := fun q h => by rw [← hAe]; exact Or.inr h
  have hl := lv_entry ([.ref h, .int a1, .int b1, .int c1]) (n := 11) (Nat.le_of_ble_eq_true rfl)
  rw [lg_entry_eq]
  generalize (lg_sl ([.ref h, .int a1, .int b1, .int c1]) ++ List.replicate (11 - (lg_sl ([.ref h, .int a1, .int b1, .int c1])).length) Slot.unset).toArray = ls at hl ⊢
  have hl : lv_has ls 11 [(0, .ref h), (1, .int a1), (2, .int b1), (3, .int c1)] := hl
  obtain ⟨H, hH0⟩ : ∃ H, H = s.heap := ⟨_, rfl⟩
  have hS : va_S A s.heap H [] := by rw [hH0]; exact va_S.rf
  have hP : va_P D vwCl [(h, oX11 th aw ai ab ac hi re aP ta po en be de fa a5 sp av an ak ne aW aC ag aT aN aF), (aw, kcI cI 2179 fw), (aT, kcJ cJ 550 fT), (aN, kcJ cJ 550 fN)] H := by rw [hH0]; exact hP
  refine kHeap hH0 ?_
  clear hH0
  refine lv_aload_n hx hb dX11_tore_0 rfl (lv_at hl 0 rfl) ?_
  refine lv_iconst (v := 0) hx hb dX11_tore_1 (by decide) ?_
  refine va_put (D := D) (ci := 10) (v := .int 0) (ty := .int) (C := RX11) (T := TX11) (N := 26) hx hb hts iG_X11 tyX11 tyX11_ok nmX11 hown hK hP hD hS 0 rfl rfl 0 (by decide) (hts _ w6_8) (fun _ h9 => h9) rfl (by decide +kernel) rfl rfl (Nat.le_of_ble_eq_true rfl) dX11_tore_2 (fun H locs hP hD hS => ?_)
  have hP : va_P D vwCl [(h, oX11 0 aw ai ab ac hi re aP ta po en be de fa a5 sp av an ak ne aW aC ag aT aN aF), (aw, kcI cI 2179 fw), (aT, kcJ cJ 550 fT), (aN, kcJ cJ 550 fN)] H := hP
  have hD : va_D A [(h, oX11 0 aw ai ab ac hi re aP ta po en be de fa a5 sp av an ak ne aW aC ag aT aN aF), (aw, kcI cI 2179 fw), (aT, kcJ cJ 550 fT), (aN, kcJ cJ 550 fN)] := hD
  refine lv_aload_n hx hb dX11_tore_5 rfl (lv_at hl 0 rfl) ?_
  refine lv_iload_n hx hb dX11_tore_6 rfl (lv_at hl 3 rfl) ?_
  refine lv_iconst (v := 0) hx hb dX11_tore_7 (by decide) ?_
  refine lv_iconst (v := 2) hx hb dX11_tore_8 (by decide) ?_
  refine kpurei (wc := []) hP hD hS hA [] rfl (by decide) (fun hPc hDc hFc => va_runS (As := [.int c1, .int 0, .int 2]) (rest := [.ref h]) ⟨hx, hb, hml, hown, hts⟩ (r_in_0_2 l D cI cJ cB cC c1 H.size) (va_cwS 3 hts gX11_tore_X11_in rfl rfl rfl hdX11_in ⟨Nat.le_of_ble_eq_true rfl, Nat.le_of_ble_eq_true rfl⟩) ⟨kBlind, fun U hU hW => ⟨rfl, by rw [hU], hN.warm hW, hE.pass hS hFc hW hU, by rw [hU]; exact hPc, va_K.moved hW.alike hK, hDc⟩⟩ rfl rfl hl.1 rfl (lv_room (Nat.le_of_ble_eq_true rfl)) dX11_tore_9 ⟨Nat.le_of_ble_eq_true rfl, Nat.le_of_ble_eq_true rfl⟩) (fun r1 u H locs hw hP hS => ?_)
  obtain ⟨k2, hw⟩ := hw
  rcases hw with rfl | ⟨rfl, kc3_0⟩
  · skip
    refine lv_if_ne (tgt := 19) hx hb dX11_tore_12 (by decide) (fun c5 => absurd (by decide) c5) (fun _ => ?_)
    refine lv_iconst (v := 1) hx hb dX11_tore_15 (by decide) ?_
    refine lv_goto (tgt := 20) hx hb dX11_tore_16 (by decide) ?_
    refine lv_iconst (v := 1) hx hb dX11_tore_20 (by decide) ?_
    refine kcalli (wc := [(h, oX11 0 aw ai ab ac hi re aP ta po en be de fa a5 sp av an ak ne aW aC ag aT aN aF)]) (wr := [(aw, kcI cI 2179 fw), (aT, kcJ cJ 550 fT), (aN, kcJ cJ 550 fN)]) hP hD hS hA [0] [1, 2, 3] rfl rfl (by decide) (by decide) (by decide) (fun hPc hDc hFc => va_runV (As := [.int 1, .int 1]) (rest := []) ⟨hx, hb, hml, hown, hts⟩ (r_throwsIf1_1 l D cI cJ cB cC h 0 aw ai ab ac hi re aP ta po en be de fa a5 sp av an ak ne aW aC ag aT aN aF 1 H.size) (cwV 2 hts gX11_tore_X11_throwsIf rfl rfl rfl ⟨rfl, hdX11_throwsIf⟩ ⟨Nat.le_of_ble_eq_true rfl, Nat.le_of_ble_eq_true rfl⟩) ⟨kBlind, va_recv hK hPc (ci := 10) (q0 := 0) rfl rfl, fun U hU hW => ⟨rfl, by rw [hU], hN.warm hW, hE.pass hS hFc hW hU, by rw [hU]; exact hPc, va_K.moved hW.alike hK, hDc⟩⟩ rfl rfl hl.1 rfl (lv_room (Nat.le_of_ble_eq_true rfl)) dX11_tore_21 ⟨Nat.le_of_ble_eq_true rfl, Nat.le_of_ble_eq_true rfl⟩) (fun r6 u H locs hw hP hD hS => ?_)
    obtain ⟨x7, rfl⟩ : ∃ z, z = u := ⟨_, rfl⟩
    have hP : va_P D vwCl [(aw, kcI cI 2179 fw), (aT, kcJ cJ 550 fT), (aN, kcJ cJ 550 fN), (h, oX11 x7 aw ai ab ac hi re aP ta po en be de fa a5 sp av an ak ne aW aC ag aT aN aF)] H := hP
    have hD : va_D A [(aw, kcI cI 2179 fw), (aT, kcJ cJ 550 fT), (aN, kcJ cJ 550 fN), (h, oX11 x7 aw ai ab ac hi re aP ta po en be de fa a5 sp av an ak ne aW aC ag aT aN aF)] := hD
    obtain ⟨k8, k9⟩ := hw
    refine lv_if_ne (tgt := 54) hx hb dX11_tore_24 (by decide) (fun _ => ?_) (fun c11 => absurd c11 (rg_neq k8 (rg_lit (n := 0) (by decide)) (by decide)))
    refine lv_lconst (v := 0) hx hb dX11_tore_54 (by decide) ?_
    have hP9 := hP.sub (ws' := [(h, oX11 x7 aw ai ab ac hi re aP ta po en be de fa a5 sp av an ak ne aW aC ag aT aN aF), (aw, kcI cI 2179 fw), (aT, kcJ cJ 550 fT), (aN, kcJ cJ 550 fN)]) [3, 0, 1, 2] rfl
    have hD9 := hD.sub (ws' := [(h, oX11 x7 aw ai ab ac hi re aP ta po en be de fa a5 sp av an ak ne aW aC ag aT aN aF), (aw, kcI cI 2179 fw), (aT, kcJ cJ 550 fT), (aN, kcJ cJ 550 fN)]) [3, 0, 1, 2] (by decide) rfl
    exact W.lret (v := 0) hx hb hr (fun t ht hW => ⟨⟨0, (x7, fT, fN), rfl, (kLet_eq (k2).symm (kif_t rfl (kC_eq k9 rfl))), by rw [ht]; exact hP9, va_K.moved hW.alike hK, hD9⟩, hS.F ht⟩) hS.2.2 dX11_tore_55
  · skip
    refine lv_if_ne (tgt := 19) hx hb dX11_tore_12 (by decide) (fun _ => ?_) (fun c13 => absurd c13 (by decide))
    refine lv_iconst (v := 0) hx hb dX11_tore_19 (by decide) ?_
    refine lv_iconst (v := 1) hx hb dX11_tore_20 (by decide) ?_
    refine kpurei (wc := [(h, oX11 0 aw ai ab ac hi re aP ta po en be de fa a5 sp av an ak ne aW aC ag aT aN aF)]) hP hD hS hA [0] rfl (by decide) (fun hPc hDc hFc => va_runV (As := [.int 0, .int 1]) (rest := []) ⟨hx, hb, hml, hown, hts⟩ (r_throwsIf0_1 l D cI cJ cB cC h 0 aw ai ab ac hi re aP ta po en be de fa a5 sp av an ak ne aW aC ag aT aN aF 1 H.size) (cwV 2 hts gX11_tore_X11_throwsIf rfl rfl rfl ⟨rfl, hdX11_throwsIf⟩ ⟨Nat.le_of_ble_eq_true rfl, Nat.le_of_ble_eq_true rfl⟩) ⟨kBlind, va_recv hK hPc (ci := 10) (q0 := 0) rfl rfl, fun U hU hW => ⟨rfl, by rw [hU], hN.warm hW, hE.pass hS hFc hW hU, by rw [hU]; exact hPc, va_K.moved hW.alike hK, hDc⟩⟩ rfl rfl hl.1 rfl (lv_room (Nat.le_of_ble_eq_true rfl)) dX11_tore_21 ⟨Nat.le_of_ble_eq_true rfl, Nat.le_of_ble_eq_true rfl⟩) (fun r14 u H locs hw hP hS => ?_)
    obtain ⟨k15, k16⟩ := hw
    refine lv_if_ne (tgt := 54) hx hb dX11_tore_24 (by decide) (fun c714 => absurd (rg_eq k15 (rg_lit (n := 0) (by decide)) (by decide)) c714) (fun _ => ?_)
    refine lv_aload_n hx hb dX11_tore_27 rfl (lv_at hl 0 rfl) ?_
    refine lv_iload_n hx hb dX11_tore_28 rfl (lv_at hl 1 rfl) ?_
    refine k_join (hd := 42) (cells2 := 0) (slots2 := 0) (fun (_ : Unit) => [.ref h]) (fun (_ : Unit) (H : Heap) (locs : List Loc) (ls : Array Slot) => (F_r_tore (gT fw) fT fN a1.toInt b1.toInt c1.toInt = F_r_tore_j1 fT fN) ∧ va_P D vwCl [(h, oX11 0 aw ai ab ac hi re aP ta po en be de fa a5 sp av an ak ne aW aC ag aT aN aF), (aw, kcI cI 2179 fw), (aT, kcJ cJ 550 fT), (aN, kcJ cJ 550 fN)] H ∧ va_D A [(h, oX11 0 aw ai ab ac hi re aP ta po en be de fa a5 sp av an ak ne aW aC ag aT aN aF), (aw, kcI cI 2179 fw), (aT, kcJ cJ 550 fT), (aN, kcJ cJ 550 fN)] ∧ va_S A s.heap H locs ∧ lv_has ls 11 [(0, .ref h), (1, .int a1), (2, .int b1), (3, .int c1)]) (fun u H locs ls hI => ?_) (fun hJ42 => ?_)
    · skip
      clear hP hD hS hl
      obtain ⟨hF1, hP, hD, hS, hl⟩ := hI
      have hP : va_P D vwCl [(h, oX11 0 aw ai ab ac hi re aP ta po en be de fa a5 sp av an ak ne aW aC ag aT aN aF), (aw, kcI cI 2179 fw), (aT, kcJ cJ 550 fT), (aN, kcJ cJ 550 fN)] H := hP
      have hD : va_D A [(h, oX11 0 aw ai ab ac hi re aP ta po en be de fa a5 sp av an ak ne aW aC ag aT aN aF), (aw, kcI cI 2179 fw), (aT, kcJ cJ 550 fT), (aN, kcJ cJ 550 fN)] := hD
      have hl : lv_has ls 11 [(0, .ref h), (1, .int a1), (2, .int b1), (3, .int c1)] := hl
      show W _ _ _ _ _ _ _ _ _ _ _ _ _ _ _ (F0 m 42 ls [.ref h])
      refine lv_iconst (v := 1) hx hb dX11_tore_42 (by decide) ?_
      refine lv_goto (tgt := 47) hx hb dX11_tore_43 (by decide) ?_
      refine lv_iconst (v := 2) hx hb dX11_tore_47 (by decide) ?_
      refine kcalli (wc := [(h, oX11 0 aw ai ab ac hi re aP ta po en be de fa a5 sp av an ak ne aW aC ag aT aN aF)]) (wr := [(aw, kcI cI 2179 fw), (aT, kcJ cJ 550 fT), (aN, kcJ cJ 550 fN)]) hP hD hS hA [0] [1, 2, 3] rfl rfl (by decide) (by decide) (by decide) (fun hPc hDc hFc => va_runV (As := [.int 1, .int 2]) (rest := []) ⟨hx, hb, hml, hown, hts⟩ (r_throwsIf1_1 l D cI cJ cB cC h 0 aw ai ab ac hi re aP ta po en be de fa a5 sp av an ak ne aW aC ag aT aN aF 2 H.size) (cwV 2 hts gX11_tore_X11_throwsIf rfl rfl rfl ⟨rfl, hdX11_throwsIf⟩ ⟨Nat.le_of_ble_eq_true rfl, Nat.le_of_ble_eq_true rfl⟩) ⟨kBlind, va_recv hK hPc (ci := 10) (q0 := 0) rfl rfl, fun U hU hW => ⟨rfl, by rw [hU], hN.warm hW, hE.pass hS hFc hW hU, by rw [hU]; exact hPc, va_K.moved hW.alike hK, hDc⟩⟩ rfl rfl hl.1 rfl (lv_room (Nat.le_of_ble_eq_true rfl)) dX11_tore_48 ⟨Nat.le_of_ble_eq_true rfl, Nat.le_of_ble_eq_true rfl⟩) (fun r723 u H locs hw hP hD hS => ?_)
      obtain ⟨x724, rfl⟩ : ∃ z, z = u := ⟨_, rfl⟩
      have hP : va_P D vwCl [(aw, kcI cI 2179 fw), (aT, kcJ cJ 550 fT), (aN, kcJ cJ 550 fN), (h, oX11 x724 aw ai ab ac hi re aP ta po en be de fa a5 sp av an ak ne aW aC ag aT aN aF)] H := hP
      have hD : va_D A [(aw, kcI cI 2179 fw), (aT, kcJ cJ 550 fT), (aN, kcJ cJ 550 fN), (h, oX11 x724 aw ai ab ac hi re aP ta po en be de fa a5 sp av an ak ne aW aC ag aT aN aF)] := hD
      obtain ⟨k725, k726⟩ := hw
      refine lv_if_eq (tgt := 56) hx hb dX11_tore_51 (by decide) (fun c727 => absurd c727 (rg_neq k725 (rg_lit (n := 0) (by decide)) (by decide))) (fun _ => ?_)
      refine lv_lconst (v := 0) hx hb dX11_tore_54 (by decide) ?_
      have hP9 := hP.sub (ws' := [(h, oX11 x724 aw ai ab ac hi re aP ta po en be de fa a5 sp av an ak ne aW aC ag aT aN aF), (aw, kcI cI 2179 fw), (aT, kcJ cJ 550 fT), (aN, kcJ cJ 550 fN)]) [3, 0, 1, 2] rfl
      have hD9 := hD.sub (ws' := [(h, oX11 x724 aw ai ab ac hi re aP ta po en be de fa a5 sp av an ak ne aW aC ag aT aN aF), (aw, kcI cI 2179 fw), (aT, kcJ cJ 550 fT), (aN, kcJ cJ 550 fN)]) [3, 0, 1, 2] (by decide) rfl
      exact W.lret (v := 0) hx hb hr (fun t ht hW => ⟨⟨0, (x724, fT, fN), rfl, (hF1.trans (kC_eq k726 rfl)), by rw [ht]; exact hP9, va_K.moved hW.alike hK, hD9⟩, hS.F ht⟩) hS.2.2 dX11_tore_55
    refine lv_if_lt (tgt := 42) hx hb dX11_tore_29 (by decide) (fun c728 => ?_) (fun c728 => ?_)
    · skip
      have k729 : Rg a1 (-2147483648) (-1) := rg_l1 (ltI c728) (rg_any a1) (rg_lit (n := 0) (by decide)) (by decide)
      exact hJ42 () _ _ _ ⟨(kLet_eq (k2).symm (kif_f (by decide) (kLet_eq (k16).symm (kif_t (ltI c728) rfl)))), hP.sub (ws' := [(h, oX11 0 aw ai ab ac hi re aP ta po en be de fa a5 sp av an ak ne aW aC ag aT aN aF), (aw, kcI cI 2179 fw), (aT, kcJ cJ 550 fT), (aN, kcJ cJ 550 fN)]) [0, 1, 2, 3] rfl, hD.sub (ws' := [(h, oX11 0 aw ai ab ac hi re aP ta po en be de fa a5 sp av an ak ne aW aC ag aT aN aF), (aw, kcI cI 2179 fw), (aT, kcJ cJ 550 fT), (aN, kcJ cJ 550 fN)]) [0, 1, 2, 3] (by decide) rfl, hS, lv_sub (l' := [(0, .ref h), (1, .int a1), (2, .int b1), (3, .int c1)]) hl [0, 1, 2, 3] rfl⟩
    · skip
      have k730 : Rg a1 0 2147483647 := rg_e2 (nltI c728) (rg_lit (n := 0) (by decide)) (rg_any a1) (by decide)
      refine lv_iload_n hx hb dX11_tore_32 rfl (lv_at hl 2 rfl) ?_
      refine lv_iconst (v := 1) hx hb dX11_tore_33 (by decide) ?_
      refine lv_bipush (v := 6) hx hb dX11_tore_34 (by decide) ?_
      refine kpurei (wc := []) hP hD hS hA [] rfl (by decide) (fun hPc hDc hFc => va_runS (As := [.int b1, .int 1, .int 6]) (rest := [.ref h]) ⟨hx, hb, hml, hown, hts⟩ (r_in_1_6 l D cI cJ cB cC b1 H.size) (va_cwS 3 hts gX11_tore_X11_in rfl rfl rfl hdX11_in ⟨Nat.le_of_ble_eq_true rfl, Nat.le_of_ble_eq_true rfl⟩) ⟨kBlind, fun U hU hW => ⟨rfl, by rw [hU], hN.warm hW, hE.pass hS hFc hW hU, by rw [hU]; exact hPc, va_K.moved hW.alike hK, hDc⟩⟩ rfl rfl hl.1 rfl (lv_room (Nat.le_of_ble_eq_true rfl)) dX11_tore_36 ⟨Nat.le_of_ble_eq_true rfl, Nat.le_of_ble_eq_true rfl⟩) (fun r731 u H locs hw hP hS => ?_)
      obtain ⟨k732, hw⟩ := hw
      rcases hw with rfl | ⟨rfl, kc733_0⟩
      · skip
        refine lv_if_ne (tgt := 46) hx hb dX11_tore_39 (by decide) (fun c734 => absurd (by decide) c734) (fun _ => ?_)
        exact hJ42 () _ _ _ ⟨(kLet_eq (k2).symm (kif_f (by decide) (kLet_eq (k16).symm (kif_f (xF_lt c728) (kLet_eq (k732).symm (kif_t rfl rfl)))))), hP.sub (ws' := [(h, oX11 0 aw ai ab ac hi re aP ta po en be de fa a5 sp av an ak ne aW aC ag aT aN aF), (aw, kcI cI 2179 fw), (aT, kcJ cJ 550 fT), (aN, kcJ cJ 550 fN)]) [0, 1, 2, 3] rfl, hD.sub (ws' := [(h, oX11 0 aw ai ab ac hi re aP ta po en be de fa a5 sp av an ak ne aW aC ag aT aN aF), (aw, kcI cI 2179 fw), (aT, kcJ cJ 550 fT), (aN, kcJ cJ 550 fN)]) [0, 1, 2, 3] (by decide) rfl, hS, lv_sub (l' := [(0, .ref h), (1, .int a1), (2, .int b1), (3, .int c1)]) hl [0, 1, 2, 3] rfl⟩
      · skip
        refine lv_if_ne (tgt := 46) hx hb dX11_tore_39 (by decide) (fun _ => ?_) (fun c735 => absurd c735 (by decide))
        refine lv_iconst (v := 0) hx hb dX11_tore_46 (by decide) ?_
        refine lv_iconst (v := 2) hx hb dX11_tore_47 (by decide) ?_
        refine kpurei (wc := [(h, oX11 0 aw ai ab ac hi re aP ta po en be de fa a5 sp av an ak ne aW aC ag aT aN aF)]) hP hD hS hA [0] rfl (by decide) (fun hPc hDc hFc => va_runV (As := [.int 0, .int 2]) (rest := []) ⟨hx, hb, hml, hown, hts⟩ (r_throwsIf0_1 l D cI cJ cB cC h 0 aw ai ab ac hi re aP ta po en be de fa a5 sp av an ak ne aW aC ag aT aN aF 2 H.size) (cwV 2 hts gX11_tore_X11_throwsIf rfl rfl rfl ⟨rfl, hdX11_throwsIf⟩ ⟨Nat.le_of_ble_eq_true rfl, Nat.le_of_ble_eq_true rfl⟩) ⟨kBlind, va_recv hK hPc (ci := 10) (q0 := 0) rfl rfl, fun U hU hW => ⟨rfl, by rw [hU], hN.warm hW, hE.pass hS hFc hW hU, by rw [hU]; exact hPc, va_K.moved hW.alike hK, hDc⟩⟩ rfl rfl hl.1 rfl (lv_room (Nat.le_of_ble_eq_true rfl)) dX11_tore_48 ⟨Nat.le_of_ble_eq_true rfl, Nat.le_of_ble_eq_true rfl⟩) (fun r736 u H locs hw hP hS => ?_)
        obtain ⟨k737, k738⟩ := hw
        refine lv_if_eq (tgt := 56) hx hb dX11_tore_51 (by decide) (fun _ => ?_) (fun c739 => absurd (rg_eq k737 (rg_lit (n := 0) (by decide)) (by decide)) c739)
        refine lv_aload_n hx hb dX11_tore_56 rfl (lv_at hl 0 rfl) ?_
        refine lv_iload_n hx hb dX11_tore_57 rfl (lv_at hl 1 rfl) ?_
        refine lv_iload_n hx hb dX11_tore_58 rfl (lv_at hl 2 rfl) ?_
        refine lv_iconst (v := (-1)) hx hb dX11_tore_59 (by decide) ?_
        refine kcalll (wc := [(h, oX11 0 aw ai ab ac hi re aP ta po en be de fa a5 sp av an ak ne aW aC ag aT aN aF), (aw, kcI cI 2179 fw), (aT, kcJ cJ 550 fT), (aN, kcJ cJ 550 fN)]) (wr := []) hP hD hS hA [0, 1, 2, 3] [] rfl rfl (by decide) (by decide) (by decide) (fun hPc hDc hFc => va_runV (As := [.int a1, .int b1, .int (-1)]) (rest := []) ⟨hx, hb, hml, hown, hts⟩ (r_tornBy l D cI cJ cB cC h 0 aw ai ab ac hi re aP ta po en be de fa a5 sp av an ak ne aW aC ag aT aN aF fw fT fN a1 b1 (-1) H.size k730 H_fw_W) (cwV 3 hts gX11_tore_X11_tornBy rfl rfl rfl ⟨rfl, hdX11_tornBy⟩ ⟨Nat.le_of_ble_eq_true rfl, Nat.le_of_ble_eq_true rfl⟩) ⟨kBlind, va_recv hK hPc (ci := 10) (q0 := 0) rfl rfl, fun U hU hW => ⟨rfl, by rw [hU], hN.warm hW, hE.pass hS hFc hW hU, by rw [hU]; exact hPc, va_K.moved hW.alike hK, hDc⟩⟩ rfl rfl hl.1 rfl (lv_room (Nat.le_of_ble_eq_true rfl)) dX11_tore_60 ⟨Nat.le_of_ble_eq_true rfl, Nat.le_of_ble_eq_true rfl⟩) (fun r740 u H locs hw hP hD hS => ?_)
        obtain ⟨g741, g742⟩ := u
        have hP : va_P D vwCl [(h, oX11 0 aw ai ab ac hi re aP ta po en be de fa a5 sp av an ak ne aW aC ag aT aN aF), (aw, kcI cI 2179 fw), (aT, kcJ cJ 550 g741), (aN, kcJ cJ 550 g742)] H := hP
        have hD : va_D A [(h, oX11 0 aw ai ab ac hi re aP ta po en be de fa a5 sp av an ak ne aW aC ag aT aN aF), (aw, kcI cI 2179 fw), (aT, kcJ cJ 550 g741), (aN, kcJ cJ 550 g742)] := hD
        have k743 := hw
        refine lv_lstore (lv' := [(4, .long r740), (0, .ref h), (1, .int a1), (2, .int b1), (3, .int c1)]) hx hb dX11_tore_63 hl (by decide) rfl (fun ls hl => ?_)
        refine lv_iload_n hx hb dX11_tore_65 rfl (lv_at hl 4 rfl) ?_
        refine lv_if_ne (tgt := 72) hx hb dX11_tore_66 (by decide) (fun c744 => ?_) (fun c744 => ?_)
        · skip
          have k745 : Rg c1 1 2 := rg_n1 (neI c744) kc3_0 (rg_lit (n := 0) (by decide)) (by decide)
          refine lv_lconst (v := 0) hx hb dX11_tore_72 (by decide) ?_
          refine lv_lstore (lv' := [(6, .long 0), (4, .long r740), (0, .ref h), (1, .int a1), (2, .int b1), (3, .int c1)]) hx hb dX11_tore_73 hl (by decide) rfl (fun ls hl => ?_)
          refine lv_iconst (v := 0) hx hb dX11_tore_75 (by decide) ?_
          refine lv_istore (lv' := [(8, .int 0), (6, .long 0), (4, .long r740), (0, .ref h), (1, .int a1), (2, .int b1), (3, .int c1)]) hx hb dX11_tore_76 hl (by decide) rfl (fun ls hl => ?_)
          refine k_loop (hd := 78) (fun (u : Int32 × Int64 × (Nat → Int64) × (Nat → Int64)) => match u with | (y1378, y1379, g1380, g1381) => (10 - (y1378).toInt).toNat) (fun (u : Int32 × Int64 × (Nat → Int64) × (Nat → Int64)) (H : Heap) (locs : List Loc) (ls : Array Slot) => match u with | (y1378, y1379, g1380, g1381) => (F_r_tore (gT fw) fT fN a1.toInt b1.toInt c1.toInt = F_r_tore_l2 (gT fw) a1.toInt b1.toInt c1.toInt r740 (y1378.toInt, y1379, g1380, g1381)) ∧ Rg y1378 0 10 ∧ va_P D vwCl [(h, oX11 0 aw ai ab ac hi re aP ta po en be de fa a5 sp av an ak ne aW aC ag aT aN aF), (aw, kcI cI 2179 fw), (aT, kcJ cJ 550 g1380), (aN, kcJ cJ 550 g1381)] H ∧ va_D A [(h, oX11 0 aw ai ab ac hi re aP ta po en be de fa a5 sp av an ak ne aW aC ag aT aN aF), (aw, kcI cI 2179 fw), (aT, kcJ cJ 550 g1380), (aN, kcJ cJ 550 g1381)] ∧ va_S A s.heap H locs ∧ lv_has ls 11 [(8, .int y1378), (6, .long y1379), (4, .long r740), (0, .ref h), (1, .int a1), (2, .int b1), (3, .int c1)]) ((0 : Int32), (0 : Int64), g741, g742) ⟨(kLet_eq (k2).symm (kif_f (by decide) (kLet_eq (k16).symm (kif_f (xF_lt c728) (kLet_eq (k732).symm (kif_f (by decide) (kLet_eq (k738).symm (kC_eq k743 (kC_eq rfl (kif_f (neI c744) rfl)))))))))), (rg_w (rg_lit (n := 0) (by decide)) (by decide)), hP.sub (ws' := [(h, oX11 0 aw ai ab ac hi re aP ta po en be de fa a5 sp av an ak ne aW aC ag aT aN aF), (aw, kcI cI 2179 fw), (aT, kcJ cJ 550 g741), (aN, kcJ cJ 550 g742)]) [0, 1, 2, 3] rfl, hD.sub (ws' := [(h, oX11 0 aw ai ab ac hi re aP ta po en be de fa a5 sp av an ak ne aW aC ag aT aN aF), (aw, kcI cI 2179 fw), (aT, kcJ cJ 550 g741), (aN, kcJ cJ 550 g742)]) [0, 1, 2, 3] (by decide) rfl, hS, lv_sub (l' := [(8, .int 0), (6, .long 0), (4, .long r740), (0, .ref h), (1, .int a1), (2, .int b1), (3, .int c1)]) hl [0, 1, 2, 3, 4, 5, 6] rfl⟩ (fun u H locs ls hI ih1382 => ?_)
          clear hP hD hS hl
          obtain ⟨y1378, y1379, g1380, g1381⟩ := u
          obtain ⟨hF2, hy1378, hP, hD, hS, hl⟩ := hI
          have hP : va_P D vwCl [(h, oX11 0 aw ai ab ac hi re aP ta po en be de fa a5 sp av an ak ne aW aC ag aT aN aF), (aw, kcI cI 2179 fw), (aT, kcJ cJ 550 g1380), (aN, kcJ cJ 550 g1381)] H := hP
          have hD : va_D A [(h, oX11 0 aw ai ab ac hi re aP ta po en be de fa a5 sp av an ak ne aW aC ag aT aN aF), (aw, kcI cI 2179 fw), (aT, kcJ cJ 550 g1380), (aN, kcJ cJ 550 g1381)] := hD
          have hl : lv_has ls 11 [(8, .int y1378), (6, .long y1379), (4, .long r740), (0, .ref h), (1, .int a1), (2, .int b1), (3, .int c1)] := hl
          refine lv_iload hx hb dX11_tore_78 (lv_at hl 0 rfl) ?_
          refine lv_aload_n hx hb dX11_tore_80 rfl (lv_at hl 3 rfl) ?_
          refine kpurei (wc := [(h, oX11 0 aw ai ab ac hi re aP ta po en be de fa a5 sp av an ak ne aW aC ag aT aN aF), (aw, kcI cI 2179 fw)]) hP hD hS hA [0, 1] rfl (by decide) (fun hPc hDc hFc => va_runV (As := []) (rest := [.int y1378]) ⟨hx, hb, hml, hown, hts⟩ (r_men l D cI cJ cB cC h 0 aw ai ab ac hi re aP ta po en be de fa a5 sp av an ak ne aW aC ag aT aN aF fw H.size H_fw_W) (cwV 0 hts gX11_tore_X11_men rfl rfl rfl ⟨rfl, hdX11_men⟩ ⟨Nat.le_of_ble_eq_true rfl, Nat.le_of_ble_eq_true rfl⟩) ⟨kBlind, va_recv hK hPc (ci := 10) (q0 := 0) rfl rfl, fun U hU hW => ⟨rfl, by rw [hU], hN.warm hW, hE.pass hS hFc hW hU, by rw [hU]; exact hPc, va_K.moved hW.alike hK, hDc⟩⟩ rfl rfl hl.1 rfl (lv_room (Nat.le_of_ble_eq_true rfl)) dX11_tore_81 ⟨Nat.le_of_ble_eq_true rfl, Nat.le_of_ble_eq_true rfl⟩) (fun r1383 u H locs hw hP hS => ?_)
          obtain ⟨k1384, k1385, k1386⟩ := hw
          refine lv_icmp_ge (tgt := 154) hx hb dX11_tore_84 (by decide) (fun c1387 => ?_) (fun c1387 => ?_)
          · skip
            refine lv_lload hx hb dX11_tore_154 (lv_at hl 1 rfl) ?_
            have hP9 := hP.sub (ws' := [(h, oX11 0 aw ai ab ac hi re aP ta po en be de fa a5 sp av an ak ne aW aC ag aT aN aF), (aw, kcI cI 2179 fw), (aT, kcJ cJ 550 g1380), (aN, kcJ cJ 550 g1381)]) [0, 1, 2, 3] rfl
            have hD9 := hD.sub (ws' := [(h, oX11 0 aw ai ab ac hi re aP ta po en be de fa a5 sp av an ak ne aW aC ag aT aN aF), (aw, kcI cI 2179 fw), (aT, kcJ cJ 550 g1380), (aN, kcJ cJ 550 g1381)]) [0, 1, 2, 3] (by decide) rfl
            exact W.lret (v := y1379) hx hb hr (fun t ht hW => ⟨⟨y1379, ((0 : Int32), g1380, g1381), rfl, (hF2.trans (kIter_out (kC_eq rfl (kC_eq rfl (kC_eq rfl (kLet_eq (k1386).symm (kif_t (leI c1387) rfl))))))), by rw [ht]; exact hP9, va_K.moved hW.alike hK, hD9⟩, hS.F ht⟩) hS.2.2 dX11_tore_156
          · skip
            have k1388 : Rg y1378 0 9 := rg_l1 (nleI c1387) hy1378 k1385 (by decide)
            have k1389 : Rg r1383 1 10 := rg_l2 (nleI c1387) hy1378 k1385 (by decide)
            refine lv_aload_n hx hb dX11_tore_87 rfl (lv_at hl 3 rfl) ?_
            refine lv_iload_n hx hb dX11_tore_88 rfl (lv_at hl 4 rfl) ?_
            refine lv_iload_n hx hb dX11_tore_89 rfl (lv_at hl 5 rfl) ?_
            refine lv_iload hx hb dX11_tore_90 (lv_at hl 0 rfl) ?_
            refine kcalll (wc := [(h, oX11 0 aw ai ab ac hi re aP ta po en be de fa a5 sp av an ak ne aW aC ag aT aN aF), (aw, kcI cI 2179 fw), (aT, kcJ cJ 550 g1380), (aN, kcJ cJ 550 g1381)]) (wr := []) hP hD hS hA [0, 1, 2, 3] [] rfl rfl (by decide) (by decide) (by decide) (fun hPc hDc hFc => va_runV (As := [.int a1, .int b1, .int y1378]) (rest := []) ⟨hx, hb, hml, hown, hts⟩ (r_tornBy l D cI cJ cB cC h 0 aw ai ab ac hi re aP ta po en be de fa a5 sp av an ak ne aW aC ag aT aN aF fw g1380 g1381 a1 b1 y1378 H.size k730 H_fw_W) (cwV 3 hts gX11_tore_X11_tornBy rfl rfl rfl ⟨rfl, hdX11_tornBy⟩ ⟨Nat.le_of_ble_eq_true rfl, Nat.le_of_ble_eq_true rfl⟩) ⟨kBlind, va_recv hK hPc (ci := 10) (q0 := 0) rfl rfl, fun U hU hW => ⟨rfl, by rw [hU], hN.warm hW, hE.pass hS hFc hW hU, by rw [hU]; exact hPc, va_K.moved hW.alike hK, hDc⟩⟩ rfl rfl hl.1 rfl (lv_room (Nat.le_of_ble_eq_true rfl)) dX11_tore_92 ⟨Nat.le_of_ble_eq_true rfl, Nat.le_of_ble_eq_true rfl⟩) (fun r1390 u H locs hw hP hD hS => ?_)
            obtain ⟨g1391, g1392⟩ := u
            have hP : va_P D vwCl [(h, oX11 0 aw ai ab ac hi re aP ta po en be de fa a5 sp av an ak ne aW aC ag aT aN aF), (aw, kcI cI 2179 fw), (aT, kcJ cJ 550 g1391), (aN, kcJ cJ 550 g1392)] H := hP
            have hD : va_D A [(h, oX11 0 aw ai ab ac hi re aP ta po en be de fa a5 sp av an ak ne aW aC ag aT aN aF), (aw, kcI cI 2179 fw), (aT, kcJ cJ 550 g1391), (aN, kcJ cJ 550 g1392)] := hD
            have k1393 := hw
            refine lv_lstore (lv' := [(9, .long r1390), (8, .int y1378), (6, .long y1379), (4, .long r740), (0, .ref h), (1, .int a1), (2, .int b1), (3, .int c1)]) hx hb dX11_tore_95 hl (by decide) rfl (fun ls hl => ?_)
            refine lv_lload hx hb dX11_tore_97 (lv_at hl 2 rfl) ?_
            refine lv_iload_n hx hb dX11_tore_99 rfl (lv_at hl 7 rfl) ?_
            refine lv_iconst (v := 1) hx hb dX11_tore_100 (by decide) ?_
            refine k_join (hd := 145) (cells2 := 0) (slots2 := 0) (fun (u : Int64 × Int64) => match u with | (z1416, z1417) => [.long z1416, .long z1417]) (fun (u : Int64 × Int64) (H : Heap) (locs : List Loc) (ls : Array Slot) => match u with | (z1416, z1417) => (F_r_tore_l2_s (gT fw) a1.toInt b1.toInt c1.toInt r740 (y1378.toInt, y1379, g1380, g1381) = F_r_tore_j3 y1378.toInt g1391 g1392 z1416 z1417) ∧ va_P D vwCl [(h, oX11 0 aw ai ab ac hi re aP ta po en be de fa a5 sp av an ak ne aW aC ag aT aN aF), (aw, kcI cI 2179 fw), (aT, kcJ cJ 550 g1391), (aN, kcJ cJ 550 g1392)] H ∧ va_D A [(h, oX11 0 aw ai ab ac hi re aP ta po en be de fa a5 sp av an ak ne aW aC ag aT aN aF), (aw, kcI cI 2179 fw), (aT, kcJ cJ 550 g1391), (aN, kcJ cJ 550 g1392)] ∧ va_S A s.heap H locs ∧ lv_has ls 11 [(9, .long r1390), (8, .int y1378), (6, .long y1379), (4, .long r740), (0, .ref h), (1, .int a1), (2, .int b1), (3, .int c1)]) (fun u H locs ls hI => ?_) (fun hJ145 => ?_)
            · skip
              clear hP hD hS hl
              obtain ⟨z1416, z1417⟩ := u
              obtain ⟨hF3, hP, hD, hS, hl⟩ := hI
              have hP : va_P D vwCl [(h, oX11 0 aw ai ab ac hi re aP ta po en be de fa a5 sp av an ak ne aW aC ag aT aN aF), (aw, kcI cI 2179 fw), (aT, kcJ cJ 550 g1391), (aN, kcJ cJ 550 g1392)] H := hP
              have hD : va_D A [(h, oX11 0 aw ai ab ac hi re aP ta po en be de fa a5 sp av an ak ne aW aC ag aT aN aF), (aw, kcI cI 2179 fw), (aT, kcJ cJ 550 g1391), (aN, kcJ cJ 550 g1392)] := hD
              have hl : lv_has ls 11 [(9, .long r1390), (8, .int y1378), (6, .long y1379), (4, .long r740), (0, .ref h), (1, .int a1), (2, .int b1), (3, .int c1)] := hl
              show W _ _ _ _ _ _ _ _ _ _ _ _ _ _ _ (F0 m 145 ls [.long z1416, .long z1417])
              refine lv_lor hx hb dX11_tore_145 ?_
              refine lv_topl (fun x1418 ex1418 => ?_)
              refine lv_lstore (lv' := [(6, .long x1418), (9, .long r1390), (8, .int y1378), (4, .long r740), (0, .ref h), (1, .int a1), (2, .int b1), (3, .int c1)]) hx hb dX11_tore_146 hl (by decide) rfl (fun ls hl => ?_)
              obtain ⟨x1419, ex1419⟩ : ∃ y : Int32, y = y1378 + 1 := ⟨_, rfl⟩
              refine lv_iinc (v := x1419) (lv' := [(8, .int x1419), (6, .long x1418), (9, .long r1390), (4, .long r740), (0, .ref h), (1, .int a1), (2, .int b1), (3, .int c1)]) hx hb dX11_tore_148 hl (k := 2) rfl (by rw [ex1419]; rfl) (by decide) rfl (fun ls hl => ?_)
              have k1420 : Rg x1419 1 10 := rg_add ex1419 k1388 (rg_lit (n := 1) (by decide)) (by decide)
              refine lv_goto (tgt := 78) hx hb dX11_tore_151 (by decide) ?_
              exact ih1382 (x1419, x1418, g1391, g1392) _ _ _ (by show (10 - (x1419).toInt).toNat < (10 - (y1378).toInt).toNat; exact mu_up ex1419 k1388 k1420 (by decide)) ⟨(hF2.trans (kIter_go (hF3.trans (kLet_eq ex1418 (kLet_eq (ti_add ex1419 k1388 (rg_lit (n := 1) (by decide)) (by decide) rfl rfl) rfl))))), (rg_w k1420 (by decide)), hP.sub (ws' := [(h, oX11 0 aw ai ab ac hi re aP ta po en be de fa a5 sp av an ak ne aW aC ag aT aN aF), (aw, kcI cI 2179 fw), (aT, kcJ cJ 550 g1391), (aN, kcJ cJ 550 g1392)]) [0, 1, 2, 3] rfl, hD.sub (ws' := [(h, oX11 0 aw ai ab ac hi re aP ta po en be de fa a5 sp av an ak ne aW aC ag aT aN aF), (aw, kcI cI 2179 fw), (aT, kcJ cJ 550 g1391), (aN, kcJ cJ 550 g1392)]) [0, 1, 2, 3] (by decide) rfl, hS, lv_sub (l' := [(8, .int x1419), (6, .long x1418), (4, .long r740), (0, .ref h), (1, .int a1), (2, .int b1), (3, .int c1)]) hl [0, 1, 3, 4, 5, 6, 7] rfl⟩
            refine lv_icmp_ne (tgt := 129) hx hb dX11_tore_101 (by decide) (fun c1421 => ?_) (fun c1421 => ?_)
            · skip
              have k1422 : Rg c1 2 2 := rg_n1 (neI c1421) k745 (rg_lit (n := 1) (by decide)) (by decide)
              refine lv_lload hx hb dX11_tore_129 (lv_at hl 0 rfl) ?_
              refine lv_lload hx hb dX11_tore_131 (lv_at hl 3 rfl) ?_
              refine W.lcmp hx hb dX11_tore_133 ?_
              refine lv_topi (fun x1423 ex1423 => ?_)
              have k1424 : Rg x1423 (-1) 1 := rg_cmp ex1423
              refine lv_if_ge (tgt := 144) hx hb dX11_tore_134 (by decide) (fun c1425 => ?_) (fun c1425 => ?_)
              · skip
                have k1426 : Rg x1423 0 1 := rg_e2 (leI c1425) (rg_lit (n := 0) (by decide)) k1424 (by decide)
                refine lv_lconst (v := 0) hx hb dX11_tore_144 (by decide) ?_
                exact hJ145 ((0 : Int64), y1379) _ _ _ ⟨(kC_eq rfl (kC_eq rfl (kC_eq rfl (kLet_eq (k1386).symm (kif_f (xF_le c1387) (kC_eq k1393 (kC_eq rfl (kif_f (neI c1421) (kLet_eq (ke_cmp ex1423) (kif_t (leI c1425) rfl)))))))))), hP.sub (ws' := [(h, oX11 0 aw ai ab ac hi re aP ta po en be de fa a5 sp av an ak ne aW aC ag aT aN aF), (aw, kcI cI 2179 fw), (aT, kcJ cJ 550 g1391), (aN, kcJ cJ 550 g1392)]) [0, 1, 2, 3] rfl, hD.sub (ws' := [(h, oX11 0 aw ai ab ac hi re aP ta po en be de fa a5 sp av an ak ne aW aC ag aT aN aF), (aw, kcI cI 2179 fw), (aT, kcJ cJ 550 g1391), (aN, kcJ cJ 550 g1392)]) [0, 1, 2, 3] (by decide) rfl, hS, lv_sub (l' := [(9, .long r1390), (8, .int y1378), (6, .long y1379), (4, .long r740), (0, .ref h), (1, .int a1), (2, .int b1), (3, .int c1)]) hl [0, 1, 2, 3, 4, 5, 6, 7] rfl⟩
              · skip
                have k1427 : Rg x1423 (-1) (-1) := rg_l1 (nleI c1425) k1424 (rg_lit (n := 0) (by decide)) (by decide)
                refine lv_lconst (v := 1) hx hb dX11_tore_137 (by decide) ?_
                refine lv_iload hx hb dX11_tore_138 (lv_at hl 1 rfl) ?_
                refine lv_lshl hx hb dX11_tore_140 rfl ?_
                refine lv_topl (fun x1428 ex1428 => ?_)
                refine lv_goto (tgt := 145) hx hb dX11_tore_141 (by decide) ?_
                exact hJ145 (x1428, y1379) _ _ _ ⟨(kC_eq rfl (kC_eq rfl (kC_eq rfl (kLet_eq (k1386).symm (kif_f (xF_le c1387) (kC_eq k1393 (kC_eq rfl (kif_f (neI c1421) (kLet_eq (ke_cmp ex1423) (kif_f (xF_le c1425) (kLet_eq (ke_lshl ex1428) rfl))))))))))), hP.sub (ws' := [(h, oX11 0 aw ai ab ac hi re aP ta po en be de fa a5 sp av an ak ne aW aC ag aT aN aF), (aw, kcI cI 2179 fw), (aT, kcJ cJ 550 g1391), (aN, kcJ cJ 550 g1392)]) [0, 1, 2, 3] rfl, hD.sub (ws' := [(h, oX11 0 aw ai ab ac hi re aP ta po en be de fa a5 sp av an ak ne aW aC ag aT aN aF), (aw, kcI cI 2179 fw), (aT, kcJ cJ 550 g1391), (aN, kcJ cJ 550 g1392)]) [0, 1, 2, 3] (by decide) rfl, hS, lv_sub (l' := [(9, .long r1390), (8, .int y1378), (6, .long y1379), (4, .long r740), (0, .ref h), (1, .int a1), (2, .int b1), (3, .int c1)]) hl [0, 1, 2, 3, 4, 5, 6, 7] rfl⟩
            · skip
              have k1429 : Rg c1 1 1 := rg_q1 (eqI c1421) k745 (rg_lit (n := 1) (by decide)) (by decide)
              refine lv_lload hx hb dX11_tore_104 (lv_at hl 3 rfl) ?_
              refine lv_lconst (v := 0) hx hb dX11_tore_106 (by decide) ?_
              refine W.lcmp hx hb dX11_tore_107 ?_
              refine lv_topi (fun x1430 ex1430 => ?_)
              have k1431 : Rg x1430 (-1) 1 := rg_cmp ex1430
              refine k_join (hd := 125) (cells2 := 0) (slots2 := 0) (fun (z1441 : Int64) => [.long z1441]) (fun (z1441 : Int64) (H : Heap) (locs : List Loc) (ls : Array Slot) => (F_r_tore_l2_s (gT fw) a1.toInt b1.toInt c1.toInt r740 (y1378.toInt, y1379, g1380, g1381) = F_r_tore_j4 y1378.toInt g1391 g1392 z1441) ∧ va_P D vwCl [(h, oX11 0 aw ai ab ac hi re aP ta po en be de fa a5 sp av an ak ne aW aC ag aT aN aF), (aw, kcI cI 2179 fw), (aT, kcJ cJ 550 g1391), (aN, kcJ cJ 550 g1392)] H ∧ va_D A [(h, oX11 0 aw ai ab ac hi re aP ta po en be de fa a5 sp av an ak ne aW aC ag aT aN aF), (aw, kcI cI 2179 fw), (aT, kcJ cJ 550 g1391), (aN, kcJ cJ 550 g1392)] ∧ va_S A s.heap H locs ∧ lv_has ls 11 [(9, .long r1390), (8, .int y1378), (6, .long y1379), (4, .long r740), (0, .ref h), (1, .int a1), (2, .int b1), (3, .int c1)]) (fun u H locs ls hI => ?_) (fun hJ125 => ?_)
              · skip
                clear hP hD hS hl
                obtain ⟨z1441, rfl⟩ : ∃ z, z = u := ⟨_, rfl⟩
                obtain ⟨hF4, hP, hD, hS, hl⟩ := hI
                have hP : va_P D vwCl [(h, oX11 0 aw ai ab ac hi re aP ta po en be de fa a5 sp av an ak ne aW aC ag aT aN aF), (aw, kcI cI 2179 fw), (aT, kcJ cJ 550 g1391), (aN, kcJ cJ 550 g1392)] H := hP
                have hD : va_D A [(h, oX11 0 aw ai ab ac hi re aP ta po en be de fa a5 sp av an ak ne aW aC ag aT aN aF), (aw, kcI cI 2179 fw), (aT, kcJ cJ 550 g1391), (aN, kcJ cJ 550 g1392)] := hD
                have hl : lv_has ls 11 [(9, .long r1390), (8, .int y1378), (6, .long y1379), (4, .long r740), (0, .ref h), (1, .int a1), (2, .int b1), (3, .int c1)] := hl
                show W _ _ _ _ _ _ _ _ _ _ _ _ _ _ _ (F0 m 125 ls [.long z1441])
                refine lv_lconst (v := 0) hx hb dX11_tore_125 (by decide) ?_
                refine lv_goto (tgt := 145) hx hb dX11_tore_126 (by decide) ?_
                exact hJ145 ((0 : Int64), z1441) _ _ _ ⟨(hF4.trans rfl), hP.sub (ws' := [(h, oX11 0 aw ai ab ac hi re aP ta po en be de fa a5 sp av an ak ne aW aC ag aT aN aF), (aw, kcI cI 2179 fw), (aT, kcJ cJ 550 g1391), (aN, kcJ cJ 550 g1392)]) [0, 1, 2, 3] rfl, hD.sub (ws' := [(h, oX11 0 aw ai ab ac hi re aP ta po en be de fa a5 sp av an ak ne aW aC ag aT aN aF), (aw, kcI cI 2179 fw), (aT, kcJ cJ 550 g1391), (aN, kcJ cJ 550 g1392)]) [0, 1, 2, 3] (by decide) rfl, hS, lv_sub (l' := [(9, .long r1390), (8, .int y1378), (6, .long y1379), (4, .long r740), (0, .ref h), (1, .int a1), (2, .int b1), (3, .int c1)]) hl [0, 1, 2, 3, 4, 5, 6, 7] rfl⟩
              refine lv_if_le (tgt := 125) hx hb dX11_tore_108 (by decide) (fun c1442 => ?_) (fun c1442 => ?_)
              · skip
                have k1443 : Rg x1430 (-1) 0 := rg_e1 (leI c1442) k1431 (rg_lit (n := 0) (by decide)) (by decide)
                exact hJ125 (y1379) _ _ _ ⟨(kC_eq rfl (kC_eq rfl (kC_eq rfl (kLet_eq (k1386).symm (kif_f (xF_le c1387) (kC_eq k1393 (kC_eq rfl (kif_t (eqI c1421) (kLet_eq (ke_cmp ex1430) (kif_t (leI c1442) rfl)))))))))), hP.sub (ws' := [(h, oX11 0 aw ai ab ac hi re aP ta po en be de fa a5 sp av an ak ne aW aC ag aT aN aF), (aw, kcI cI 2179 fw), (aT, kcJ cJ 550 g1391), (aN, kcJ cJ 550 g1392)]) [0, 1, 2, 3] rfl, hD.sub (ws' := [(h, oX11 0 aw ai ab ac hi re aP ta po en be de fa a5 sp av an ak ne aW aC ag aT aN aF), (aw, kcI cI 2179 fw), (aT, kcJ cJ 550 g1391), (aN, kcJ cJ 550 g1392)]) [0, 1, 2, 3] (by decide) rfl, hS, lv_sub (l' := [(9, .long r1390), (8, .int y1378), (6, .long y1379), (4, .long r740), (0, .ref h), (1, .int a1), (2, .int b1), (3, .int c1)]) hl [0, 1, 2, 3, 4, 5, 6, 7] rfl⟩
              · skip
                have k1444 : Rg x1430 1 1 := rg_l2 (nleI c1442) (rg_lit (n := 0) (by decide)) k1431 (by decide)
                refine lv_lload hx hb dX11_tore_111 (lv_at hl 0 rfl) ?_
                refine lv_lconst (v := 0) hx hb dX11_tore_113 (by decide) ?_
                refine W.lcmp hx hb dX11_tore_114 ?_
                refine lv_topi (fun x1445 ex1445 => ?_)
                have k1446 : Rg x1445 (-1) 1 := rg_cmp ex1445
                refine lv_if_ne (tgt := 125) hx hb dX11_tore_115 (by decide) (fun c1447 => ?_) (fun c1447 => ?_)
                · skip
                  exact hJ125 (y1379) _ _ _ ⟨(kC_eq rfl (kC_eq rfl (kC_eq rfl (kLet_eq (k1386).symm (kif_f (xF_le c1387) (kC_eq k1393 (kC_eq rfl (kif_t (eqI c1421) (kLet_eq (ke_cmp ex1430) (kif_f (xF_le c1442) (kLet_eq (ke_cmp ex1445) (kif_f (neI c1447) rfl)))))))))))), hP.sub (ws' := [(h, oX11 0 aw ai ab ac hi re aP ta po en be de fa a5 sp av an ak ne aW aC ag aT aN aF), (aw, kcI cI 2179 fw), (aT, kcJ cJ 550 g1391), (aN, kcJ cJ 550 g1392)]) [0, 1, 2, 3] rfl, hD.sub (ws' := [(h, oX11 0 aw ai ab ac hi re aP ta po en be de fa a5 sp av an ak ne aW aC ag aT aN aF), (aw, kcI cI 2179 fw), (aT, kcJ cJ 550 g1391), (aN, kcJ cJ 550 g1392)]) [0, 1, 2, 3] (by decide) rfl, hS, lv_sub (l' := [(9, .long r1390), (8, .int y1378), (6, .long y1379), (4, .long r740), (0, .ref h), (1, .int a1), (2, .int b1), (3, .int c1)]) hl [0, 1, 2, 3, 4, 5, 6, 7] rfl⟩
                · skip
                  have k1448 : Rg x1445 0 0 := rg_q1 (eqI c1447) k1446 (rg_lit (n := 0) (by decide)) (by decide)
                  refine lv_lconst (v := 1) hx hb dX11_tore_118 (by decide) ?_
                  refine lv_iload hx hb dX11_tore_119 (lv_at hl 1 rfl) ?_
                  refine lv_lshl hx hb dX11_tore_121 rfl ?_
                  refine lv_topl (fun x1449 ex1449 => ?_)
                  refine lv_goto (tgt := 145) hx hb dX11_tore_122 (by decide) ?_
                  exact hJ145 (x1449, y1379) _ _ _ ⟨(kC_eq rfl (kC_eq rfl (kC_eq rfl (kLet_eq (k1386).symm (kif_f (xF_le c1387) (kC_eq k1393 (kC_eq rfl (kif_t (eqI c1421) (kLet_eq (ke_cmp ex1430) (kif_f (xF_le c1442) (kLet_eq (ke_cmp ex1445) (kif_t (eqI c1447) (kLet_eq (ke_lshl ex1449) rfl))))))))))))), hP.sub (ws' := [(h, oX11 0 aw ai ab ac hi re aP ta po en be de fa a5 sp av an ak ne aW aC ag aT aN aF), (aw, kcI cI 2179 fw), (aT, kcJ cJ 550 g1391), (aN, kcJ cJ 550 g1392)]) [0, 1, 2, 3] rfl, hD.sub (ws' := [(h, oX11 0 aw ai ab ac hi re aP ta po en be de fa a5 sp av an ak ne aW aC ag aT aN aF), (aw, kcI cI 2179 fw), (aT, kcJ cJ 550 g1391), (aN, kcJ cJ 550 g1392)]) [0, 1, 2, 3] (by decide) rfl, hS, lv_sub (l' := [(9, .long r1390), (8, .int y1378), (6, .long y1379), (4, .long r740), (0, .ref h), (1, .int a1), (2, .int b1), (3, .int c1)]) hl [0, 1, 2, 3, 4, 5, 6, 7] rfl⟩
        · skip
          have k1450 : Rg c1 0 0 := rg_q1 (eqI c744) kc3_0 (rg_lit (n := 0) (by decide)) (by decide)
          refine lv_lload hx hb dX11_tore_69 (lv_at hl 0 rfl) ?_
          have hP9 := hP.sub (ws' := [(h, oX11 0 aw ai ab ac hi re aP ta po en be de fa a5 sp av an ak ne aW aC ag aT aN aF), (aw, kcI cI 2179 fw), (aT, kcJ cJ 550 g741), (aN, kcJ cJ 550 g742)]) [0, 1, 2, 3] rfl
          have hD9 := hD.sub (ws' := [(h, oX11 0 aw ai ab ac hi re aP ta po en be de fa a5 sp av an ak ne aW aC ag aT aN aF), (aw, kcI cI 2179 fw), (aT, kcJ cJ 550 g741), (aN, kcJ cJ 550 g742)]) [0, 1, 2, 3] (by decide) rfl
          exact W.lret (v := r740) hx hb hr (fun t ht hW => ⟨⟨r740, ((0 : Int32), g741, g742), rfl, (kLet_eq (k2).symm (kif_f (by decide) (kLet_eq (k16).symm (kif_f (xF_lt c728) (kLet_eq (k732).symm (kif_f (by decide) (kLet_eq (k738).symm (kC_eq k743 (kC_eq rfl (kif_t (eqI c744) rfl)))))))))), by rw [ht]; exact hP9, va_K.moved hW.alike hK, hD9⟩, hS.F ht⟩) hS.2.2 dX11_tore_71

