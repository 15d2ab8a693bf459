def kwX11_tornBy : List Cond := .code yX11_tornBy cX11_tornBy 9 (some .long) :: kG
theorem hdX11_tornBy : yX11_tornBy.cls ≠ "java/lang/invoke/MethodHandle" ∧ yX11_tornBy.cls ≠ "java/lang/invoke/VarHandle" ∧ (parseMethodDescriptor yX11_tornBy.desc).map (fun d => d.parameters.length) = some 3 := by decide +kernel
theorem gX11_tornBy_X11_isNeighbour : GoodIn kG (wsV RX11 267 RX11 yX11_isNeighbour kwX11_isNeighbour) := gK w27_11 (gK w27_12 (gK w27_13 (gK w0_5 (gK w27_14 gGG))))
theorem gX11_tornBy_X11_men : GoodIn kG (wsV RX11 71 RX11 yX11_men kwX11_men) := gK w19_17 (gK w19_18 (gK w19_19 (gK w0_5 (gK w19_20 gGG))))
theorem gX11_tornBy_X11_ofMan : GoodIn kG (wsV RX11 153 RX11 yX11_ofMan kwX11_ofMan) := gK w21_5 (gK w21_6 (gK w21_7 (gK w0_5 (gK w21_8 gGG))))
theorem dX11_tornBy_0 : decode cX11_tornBy 0 = .ok (.iload_n 1, 1) := by decide +kernel
theorem dX11_tornBy_1 : decode cX11_tornBy 1 = .ok (.bipush 54, 2) := by decide +kernel
theorem dX11_tornBy_3 : decode cX11_tornBy 3 = .ok (.if_icmp .le 5, 3) := by decide +kernel
theorem dX11_tornBy_6 : decode cX11_tornBy 6 = .ok (.lconst 0, 1) := by decide +kernel
theorem dX11_tornBy_7 : decode cX11_tornBy 7 = .ok (.lreturn, 1) := by decide +kernel
theorem dX11_tornBy_8 : decode cX11_tornBy 8 = .ok (.iconst 0, 1) := by decide +kernel
theorem dX11_tornBy_9 : decode cX11_tornBy 9 = .ok (.istore 4, 2) := by decide +kernel
theorem dX11_tornBy_11 : decode cX11_tornBy 11 = .ok (.iload 4, 2) := by decide +kernel
theorem dX11_tornBy_13 : decode cX11_tornBy 13 = .ok (.sipush 550, 3) := by decide +kernel
theorem dX11_tornBy_16 : decode cX11_tornBy 16 = .ok (.if_icmp .ge 17, 3) := by decide +kernel
theorem dX11_tornBy_19 : decode cX11_tornBy 19 = .ok (.aload_n 0, 1) := by decide +kernel
theorem dX11_tornBy_20 : decode cX11_tornBy 20 = .ok (.getfield 55, 3) := by decide +kernel
theorem dX11_tornBy_23 : decode cX11_tornBy 23 = .ok (.iload 4, 2) := by decide +kernel
theorem dX11_tornBy_25 : decode cX11_tornBy 25 = .ok (.lconst 0, 1) := by decide +kernel
theorem dX11_tornBy_26 : decode cX11_tornBy 26 = .ok (.lastore, 1) := by decide +kernel
theorem dX11_tornBy_27 : decode cX11_tornBy 27 = .ok (.iinc 4 1, 3) := by decide +kernel
theorem dX11_tornBy_30 : decode cX11_tornBy 30 = .ok (.goto (-19), 3) := by decide +kernel
theorem dX11_tornBy_33 : decode cX11_tornBy 33 = .ok (.iconst 0, 1) := by decide +kernel
theorem dX11_tornBy_34 : decode cX11_tornBy 34 = .ok (.istore 4, 2) := by decide +kernel
theorem dX11_tornBy_36 : decode cX11_tornBy 36 = .ok (.iload 4, 2) := by decide +kernel
theorem dX11_tornBy_38 : decode cX11_tornBy 38 = .ok (.aload_n 0, 1) := by decide +kernel
theorem dX11_tornBy_39 : decode cX11_tornBy 39 = .ok (.invokevirtual 71, 3) := by decide +kernel
theorem dX11_tornBy_42 : decode cX11_tornBy 42 = .ok (.if_icmp .ge 38, 3) := by decide +kernel
theorem dX11_tornBy_45 : decode cX11_tornBy 45 = .ok (.aload_n 0, 1) := by decide +kernel
theorem dX11_tornBy_46 : decode cX11_tornBy 46 = .ok (.getfield 55, 3) := by decide +kernel
theorem dX11_tornBy_49 : decode cX11_tornBy 49 = .ok (.bipush 55, 2) := by decide +kernel
theorem dX11_tornBy_51 : decode cX11_tornBy 51 = .ok (.iload 4, 2) := by decide +kernel
theorem dX11_tornBy_53 : decode cX11_tornBy 53 = .ok (.imul, 1) := by decide +kernel
theorem dX11_tornBy_54 : decode cX11_tornBy 54 = .ok (.aload_n 0, 1) := by decide +kernel
theorem dX11_tornBy_55 : decode cX11_tornBy 55 = .ok (.iload 4, 2) := by decide +kernel
theorem dX11_tornBy_57 : decode cX11_tornBy 57 = .ok (.iconst 2, 1) := by decide +kernel
theorem dX11_tornBy_58 : decode cX11_tornBy 58 = .ok (.invokevirtual 153, 3) := by decide +kernel
theorem dX11_tornBy_61 : decode cX11_tornBy 61 = .ok (.iadd, 1) := by decide +kernel
theorem dX11_tornBy_62 : decode cX11_tornBy 62 = .ok (.iload 4, 2) := by decide +kernel
theorem dX11_tornBy_64 : decode cX11_tornBy 64 = .ok (.iload_n 3, 1) := by decide +kernel
theorem dX11_tornBy_65 : decode cX11_tornBy 65 = .ok (.if_icmp .ne 7, 3) := by decide +kernel
theorem dX11_tornBy_68 : decode cX11_tornBy 68 = .ok (.lconst 0, 1) := by decide +kernel
theorem dX11_tornBy_69 : decode cX11_tornBy 69 = .ok (.goto 4, 3) := by decide +kernel
theorem dX11_tornBy_72 : decode cX11_tornBy 72 = .ok (.lconst 1, 1) := by decide +kernel
theorem dX11_tornBy_73 : decode cX11_tornBy 73 = .ok (.lastore, 1) := by decide +kernel
theorem dX11_tornBy_74 : decode cX11_tornBy 74 = .ok (.iinc 4 1, 3) := by decide +kernel
theorem dX11_tornBy_77 : decode cX11_tornBy 77 = .ok (.goto (-41), 3) := by decide +kernel
theorem dX11_tornBy_80 : decode cX11_tornBy 80 = .ok (.iconst 1, 1) := by decide +kernel
theorem dX11_tornBy_81 : decode cX11_tornBy 81 = .ok (.istore 4, 2) := by decide +kernel
theorem dX11_tornBy_83 : decode cX11_tornBy 83 = .ok (.iload 4, 2) := by decide +kernel
theorem dX11_tornBy_85 : decode cX11_tornBy 85 = .ok (.iload_n 2, 1) := by decide +kernel
theorem dX11_tornBy_86 : decode cX11_tornBy 86 = .ok (.if_icmp .ge 188, 3) := by decide +kernel
theorem dX11_tornBy_89 : decode cX11_tornBy 89 = .ok (.iconst 0, 1) := by decide +kernel
theorem dX11_tornBy_90 : decode cX11_tornBy 90 = .ok (.istore 5, 2) := by decide +kernel
theorem dX11_tornBy_92 : decode cX11_tornBy 92 = .ok (.iload 5, 2) := by decide +kernel
theorem dX11_tornBy_94 : decode cX11_tornBy 94 = .ok (.sipush 550, 3) := by decide +kernel
theorem dX11_tornBy_97 : decode cX11_tornBy 97 = .ok (.if_icmp .ge 17, 3) := by decide +kernel
theorem dX11_tornBy_100 : decode cX11_tornBy 100 = .ok (.aload_n 0, 1) := by decide +kernel
theorem dX11_tornBy_101 : decode cX11_tornBy 101 = .ok (.getfield 58, 3) := by decide +kernel
theorem dX11_tornBy_104 : decode cX11_tornBy 104 = .ok (.iload 5, 2) := by decide +kernel
theorem dX11_tornBy_106 : decode cX11_tornBy 106 = .ok (.lconst 0, 1) := by decide +kernel
theorem dX11_tornBy_107 : decode cX11_tornBy 107 = .ok (.lastore, 1) := by decide +kernel
theorem dX11_tornBy_108 : decode cX11_tornBy 108 = .ok (.iinc 5 1, 3) := by decide +kernel
theorem dX11_tornBy_111 : decode cX11_tornBy 111 = .ok (.goto (-19), 3) := by decide +kernel
theorem dX11_tornBy_114 : decode cX11_tornBy 114 = .ok (.iconst 0, 1) := by decide +kernel
theorem dX11_tornBy_115 : decode cX11_tornBy 115 = .ok (.istore 5, 2) := by decide +kernel
theorem dX11_tornBy_117 : decode cX11_tornBy 117 = .ok (.iload 5, 2) := by decide +kernel
theorem dX11_tornBy_119 : decode cX11_tornBy 119 = .ok (.aload_n 0, 1) := by decide +kernel
theorem dX11_tornBy_120 : decode cX11_tornBy 120 = .ok (.invokevirtual 71, 3) := by decide +kernel
theorem dX11_tornBy_123 : decode cX11_tornBy 123 = .ok (.if_icmp .ge 114, 3) := by decide +kernel
theorem dX11_tornBy_126 : decode cX11_tornBy 126 = .ok (.iconst 0, 1) := by decide +kernel
theorem dX11_tornBy_127 : decode cX11_tornBy 127 = .ok (.istore 6, 2) := by decide +kernel
theorem dX11_tornBy_129 : decode cX11_tornBy 129 = .ok (.iload 6, 2) := by decide +kernel
theorem dX11_tornBy_131 : decode cX11_tornBy 131 = .ok (.aload_n 0, 1) := by decide +kernel
theorem dX11_tornBy_132 : decode cX11_tornBy 132 = .ok (.invokevirtual 71, 3) := by decide +kernel
theorem dX11_tornBy_135 : decode cX11_tornBy 135 = .ok (.if_icmp .ge 96, 3) := by decide +kernel
theorem dX11_tornBy_138 : decode cX11_tornBy 138 = .ok (.iload 5, 2) := by decide +kernel
theorem dX11_tornBy_140 : decode cX11_tornBy 140 = .ok (.iload 6, 2) := by decide +kernel
theorem dX11_tornBy_142 : decode cX11_tornBy 142 = .ok (.if_icmp .eq 83, 3) := by decide +kernel
theorem dX11_tornBy_145 : decode cX11_tornBy 145 = .ok (.iload 6, 2) := by decide +kernel
theorem dX11_tornBy_147 : decode cX11_tornBy 147 = .ok (.iload_n 3, 1) := by decide +kernel
theorem dX11_tornBy_148 : decode cX11_tornBy 148 = .ok (.if_icmp .eq 77, 3) := by decide +kernel
theorem dX11_tornBy_151 : decode cX11_tornBy 151 = .ok (.aload_n 0, 1) := by decide +kernel
theorem dX11_tornBy_152 : decode cX11_tornBy 152 = .ok (.iload 5, 2) := by decide +kernel
theorem dX11_tornBy_154 : decode cX11_tornBy 154 = .ok (.iload 6, 2) := by decide +kernel
theorem dX11_tornBy_156 : decode cX11_tornBy 156 = .ok (.invokevirtual 267, 3) := by decide +kernel
theorem dX11_tornBy_159 : decode cX11_tornBy 159 = .ok (.ifCond .eq 6, 3) := by decide +kernel
theorem dX11_tornBy_162 : decode cX11_tornBy 162 = .ok (.goto 63, 3) := by decide +kernel
theorem dX11_tornBy_165 : decode cX11_tornBy 165 = .ok (.aload_n 0, 1) := by decide +kernel
theorem dX11_tornBy_166 : decode cX11_tornBy 166 = .ok (.iload 6, 2) := by decide +kernel
theorem dX11_tornBy_168 : decode cX11_tornBy 168 = .ok (.iconst 2, 1) := by decide +kernel
theorem dX11_tornBy_169 : decode cX11_tornBy 169 = .ok (.invokevirtual 153, 3) := by decide +kernel
theorem dX11_tornBy_172 : decode cX11_tornBy 172 = .ok (.istore 7, 2) := by decide +kernel
theorem dX11_tornBy_174 : decode cX11_tornBy 174 = .ok (.iconst 0, 1) := by decide +kernel
theorem dX11_tornBy_175 : decode cX11_tornBy 175 = .ok (.istore 8, 2) := by decide +kernel
theorem dX11_tornBy_177 : decode cX11_tornBy 177 = .ok (.iload 8, 2) := by decide +kernel
theorem dX11_tornBy_179 : decode cX11_tornBy 179 = .ok (.iload 7, 2) := by decide +kernel
theorem dX11_tornBy_181 : decode cX11_tornBy 181 = .ok (.iadd, 1) := by decide +kernel
theorem dX11_tornBy_182 : decode cX11_tornBy 182 = .ok (.bipush 54, 2) := by decide +kernel
theorem dX11_tornBy_184 : decode cX11_tornBy 184 = .ok (.if_icmp .gt 41, 3) := by decide +kernel
theorem dX11_tornBy_187 : decode cX11_tornBy 187 = .ok (.aload_n 0, 1) := by decide +kernel
theorem dX11_tornBy_188 : decode cX11_tornBy 188 = .ok (.getfield 58, 3) := by decide +kernel
theorem dX11_tornBy_191 : decode cX11_tornBy 191 = .ok (.bipush 55, 2) := by decide +kernel
theorem dX11_tornBy_193 : decode cX11_tornBy 193 = .ok (.iload 6, 2) := by decide +kernel
theorem dX11_tornBy_195 : decode cX11_tornBy 195 = .ok (.imul, 1) := by decide +kernel
theorem dX11_tornBy_196 : decode cX11_tornBy 196 = .ok (.iload 8, 2) := by decide +kernel
theorem dX11_tornBy_198 : decode cX11_tornBy 198 = .ok (.iadd, 1) := by decide +kernel
theorem dX11_tornBy_199 : decode cX11_tornBy 199 = .ok (.iload 7, 2) := by decide +kernel
theorem dX11_tornBy_201 : decode cX11_tornBy 201 = .ok (.iadd, 1) := by decide +kernel
theorem dX11_tornBy_202 : decode cX11_tornBy 202 = .ok (.dup2, 1) := by decide +kernel
theorem dX11_tornBy_203 : decode cX11_tornBy 203 = .ok (.laload, 1) := by decide +kernel
theorem dX11_tornBy_204 : decode cX11_tornBy 204 = .ok (.aload_n 0, 1) := by decide +kernel
theorem dX11_tornBy_205 : decode cX11_tornBy 205 = .ok (.getfield 55, 3) := by decide +kernel
theorem dX11_tornBy_208 : decode cX11_tornBy 208 = .ok (.bipush 55, 2) := by decide +kernel
theorem dX11_tornBy_210 : decode cX11_tornBy 210 = .ok (.iload 5, 2) := by decide +kernel
theorem dX11_tornBy_212 : decode cX11_tornBy 212 = .ok (.imul, 1) := by decide +kernel
theorem dX11_tornBy_213 : decode cX11_tornBy 213 = .ok (.iload 8, 2) := by decide +kernel
theorem dX11_tornBy_215 : decode cX11_tornBy 215 = .ok (.iadd, 1) := by decide +kernel
theorem dX11_tornBy_216 : decode cX11_tornBy 216 = .ok (.laload, 1) := by decide +kernel
theorem dX11_tornBy_217 : decode cX11_tornBy 217 = .ok (.ladd, 1) := by decide +kernel
theorem dX11_tornBy_218 : decode cX11_tornBy 218 = .ok (.lastore, 1) := by decide +kernel
theorem dX11_tornBy_219 : decode cX11_tornBy 219 = .ok (.iinc 8 1, 3) := by decide +kernel
theorem dX11_tornBy_222 : decode cX11_tornBy 222 = .ok (.goto (-45), 3) := by decide +kernel
theorem dX11_tornBy_225 : decode cX11_tornBy 225 = .ok (.iinc 6 1, 3) := by decide +kernel
theorem dX11_tornBy_228 : decode cX11_tornBy 228 = .ok (.goto (-99), 3) := by decide +kernel
theorem dX11_tornBy_231 : decode cX11_tornBy 231 = .ok (.iinc 5 1, 3) := by decide +kernel
theorem dX11_tornBy_234 : decode cX11_tornBy 234 = .ok (.goto (-117), 3) := by decide +kernel
theorem dX11_tornBy_237 : decode cX11_tornBy 237 = .ok (.iconst 0, 1) := by decide +kernel
theorem dX11_tornBy_238 : decode cX11_tornBy 238 = .ok (.istore 5, 2) := by decide +kernel
theorem dX11_tornBy_240 : decode cX11_tornBy 240 = .ok (.iload 5, 2) := by decide +kernel
theorem dX11_tornBy_242 : decode cX11_tornBy 242 = .ok (.sipush 550, 3) := by decide +kernel
theorem dX11_tornBy_245 : decode cX11_tornBy 245 = .ok (.if_icmp .ge 23, 3) := by decide +kernel
theorem dX11_tornBy_248 : decode cX11_tornBy 248 = .ok (.aload_n 0, 1) := by decide +kernel
theorem dX11_tornBy_249 : decode cX11_tornBy 249 = .ok (.getfield 55, 3) := by decide +kernel
theorem dX11_tornBy_252 : decode cX11_tornBy 252 = .ok (.iload 5, 2) := by decide +kernel
theorem dX11_tornBy_254 : decode cX11_tornBy 254 = .ok (.aload_n 0, 1) := by decide +kernel
theorem dX11_tornBy_255 : decode cX11_tornBy 255 = .ok (.getfield 58, 3) := by decide +kernel
theorem dX11_tornBy_258 : decode cX11_tornBy 258 = .ok (.iload 5, 2) := by decide +kernel
theorem dX11_tornBy_260 : decode cX11_tornBy 260 = .ok (.laload, 1) := by decide +kernel
theorem dX11_tornBy_261 : decode cX11_tornBy 261 = .ok (.lastore, 1) := by decide +kernel
theorem dX11_tornBy_262 : decode cX11_tornBy 262 = .ok (.iinc 5 1, 3) := by decide +kernel
theorem dX11_tornBy_265 : decode cX11_tornBy 265 = .ok (.goto (-25), 3) := by decide +kernel
theorem dX11_tornBy_268 : decode cX11_tornBy 268 = .ok (.iinc 4 1, 3) := by decide +kernel
theorem dX11_tornBy_271 : decode cX11_tornBy 271 = .ok (.goto (-188), 3) := by decide +kernel
theorem dX11_tornBy_274 : decode cX11_tornBy 274 = .ok (.lconst 0, 1) := by decide +kernel
theorem dX11_tornBy_275 : decode cX11_tornBy 275 = .ok (.lstore 4, 2) := by decide +kernel
theorem dX11_tornBy_277 : decode cX11_tornBy 277 = .ok (.iconst 0, 1) := by decide +kernel
theorem dX11_tornBy_278 : decode cX11_tornBy 278 = .ok (.istore 6, 2) := by decide +kernel
theorem dX11_tornBy_280 : decode cX11_tornBy 280 = .ok (.iload 6, 2) := by decide +kernel
theorem dX11_tornBy_282 : decode cX11_tornBy 282 = .ok (.aload_n 0, 1) := by decide +kernel
theorem dX11_tornBy_283 : decode cX11_tornBy 283 = .ok (.invokevirtual 71, 3) := by decide +kernel
theorem dX11_tornBy_286 : decode cX11_tornBy 286 = .ok (.if_icmp .ge 26, 3) := by decide +kernel
theorem dX11_tornBy_289 : decode cX11_tornBy 289 = .ok (.lload 4, 2) := by decide +kernel
theorem dX11_tornBy_291 : decode cX11_tornBy 291 = .ok (.aload_n 0, 1) := by decide +kernel
theorem dX11_tornBy_292 : decode cX11_tornBy 292 = .ok (.getfield 55, 3) := by decide +kernel
theorem dX11_tornBy_295 : decode cX11_tornBy 295 = .ok (.bipush 55, 2) := by decide +kernel
theorem dX11_tornBy_297 : decode cX11_tornBy 297 = .ok (.iload 6, 2) := by decide +kernel
theorem dX11_tornBy_299 : decode cX11_tornBy 299 = .ok (.imul, 1) := by decide +kernel
theorem dX11_tornBy_300 : decode cX11_tornBy 300 = .ok (.iload_n 1, 1) := by decide +kernel
theorem dX11_tornBy_301 : decode cX11_tornBy 301 = .ok (.iadd, 1) := by decide +kernel
theorem dX11_tornBy_302 : decode cX11_tornBy 302 = .ok (.laload, 1) := by decide +kernel
theorem dX11_tornBy_303 : decode cX11_tornBy 303 = .ok (.ladd, 1) := by decide +kernel
theorem dX11_tornBy_304 : decode cX11_tornBy 304 = .ok (.lstore 4, 2) := by decide +kernel
theorem dX11_tornBy_306 : decode cX11_tornBy 306 = .ok (.iinc 6 1, 3) := by decide +kernel
theorem dX11_tornBy_309 : decode cX11_tornBy 309 = .ok (.goto (-29), 3) := by decide +kernel
theorem dX11_tornBy_312 : decode cX11_tornBy 312 = .ok (.lload 4, 2) := by decide +kernel
theorem dX11_tornBy_314 : decode cX11_tornBy 314 = .ok (.lreturn, 1) := by decide +kernel
set_option maxHeartbeats 4000000 in
set_option maxRecDepth 100000 in
/-- reference: tornBy -/
theorem r_tornBy (l : Launch) (D : va_G) (cI cJ cB cC : ClassId) (h : Nat) (th : Int32) (aw : Nat) (ai : Nat) (ab : Nat) (ac : Nat) (hi : Int32) (re : Int32) (aP : Nat) (ta : Int32) (po : Int32) (en : Int32) (be : Int32) (de : Int32) (fa : Int32) (a5 : Nat) (sp : Int32) (av : Nat) (an : Nat) (ak : Nat) (ne : Int32) (aW : Nat) (aC : Nat) (ag : Nat) (aT : Nat) (aN : Nat) (aF : Nat) (fw : Nat → Int32) (fT : Nat → Int64) (fN : Nat → Int64) (a1 : Int32) (b1 : Int32) (vc : Int32) (sz : Nat) (H_a1 : Rg a1 0 2147483647) (H_fw_W : wW fw) : Met l yX11_tornBy kwX11_tornBy ({ frames := 2, cells := 0, slots := 0, locals := 44 } : Room) (kPre D (kT cI cJ cB cC) sz [(h, oX11 th aw ai ab ac hi re aP ta po en be de fa a5 sp av an ak ne aW aC ag aT aN aF), (aw, .inl (cI, 2179, .inl fw)), (aT, .inl (cJ, 550, .inr (.inl fT))), (aN, .inl (cJ, 550, .inr (.inl fN)))] [.ref h, .int a1, .int b1, .int vc]) (va_Ql (fun (r : Int64) (uu : (Nat → Int64) × (Nat → Int64)) => match uu with | (f0_, f1_) => True) (fun (uu : (Nat → Int64) × (Nat → Int64)) (t : State) => match uu with | (f0_, f1_) => kB D (kT cI cJ cB cC) (va_A [(h, oX11 th aw ai ab ac hi re aP ta po en be de fa a5 sp av an ak ne aW aC ag aT aN aF), (aw, .inl (cI, 2179, .inl fw)), (aT, .inl (cJ, 550, .inr (.inl fT))), (aN, .inl (cJ, 550, .inr (.inl fN)))] sz) [(h, oX11 th aw ai ab ac hi re aP ta po en be de fa a5 sp av an ak ne aW aC ag aT aN aF), (aw, .inl (cI, 2179, .inl fw)), (aT, .inl (cJ, 550, .inr (.inl f0_))), (aN, .inl (cJ, 550, .inr (.inl f1_)))] t) (va_A [(h, oX11 th aw ai ab ac hi re aP ta po en be de fa a5 sp av an ak ne aW aC ag aT aN aF), (aw, .inl (cI, 2179, .inl fw)), (aT, .inl (cJ, 550, .inr (.inl fT))), (aN, .inl (cJ, 550, .inr (.inl fN)))] sz)) 0 0 (va_A [(h, oX11 th aw ai ab ac hi re aP ta po en be de fa a5 sp av an ak ne aW aC ag aT aN aF), (aw, .inl (cI, 2179, .inl fw)), (aT, .inl (cJ, 550, .inr (.inl fT))), (aN, .inl (cJ, 550, .inr (.inl fN)))] sz) := by
  refine Met.ofW (cc := cX11_tornBy) (maxL := 9) (ret := (some .long)) (by decide) rfl ?_
  intro p e s m args below meth c s₁ B hml hv
  obtain ⟨rfl, hsz, hN, hE, hP, hK, hD0⟩ := hv
  have hx := B.exec
  have hb := B.bytes
  have hr := B.returns
  have hts := fun (w : Cond) (h : w ∈ kG) => atoms_spec (ws := kwX11_tornBy) B.pre w (List.mem_cons_of_mem _ h)
  have hown : s.vm.findClass RX11 = some m.cls := findClass_of_methodNamed B.named
  subst hsz
  have hD := hD0.self (sz := s.heap.size)
  generalize hAe : va_A [(h, oX11 th aw ai ab ac hi re aP ta po en be de fa a5 sp av an ak ne aW aC ag aT aN aF), (aw, .inl (cI, 2179, .inl fw)), (aT, .inl (cJ, 550, .inr (.inl fT))), (aN, .inl (cJ, 550, .inr (.inl fN)))] s.heap.size = A at hD hE ⊢
  have hA : ∀ q : Nat, s.heap.size ≤ q → A q := fun q h => by rw [← hAe]; exact Or.inr h
  have hl := lv_entry ([.ref h, .int a1, .int b1, .int vc]) (n := 9) (Nat.le_of_ble_eq_true rfl)
  rw [lg_entry_eq]
  generalize (lg_sl ([.ref h, .int a1, .int b1, .int vc]) ++ List.replicate (9 - (lg_sl ([.ref h, .int a1, .int b1, .int vc])).length) Slot.unset).toArray = ls at hl ⊢
  have hl : lv_has ls 9 [(0, .ref h), (1, .int a1), (2, .int b1), (3, .int vc)] := hl
  obtain ⟨H, hH0⟩ : ∃ H, H = s.heap := ⟨_, rfl⟩
  have hS : va_S A s.heap H [] := by rw [hH0]; exact va_S.rf
  have hP : va_P D vwCl [(h, oX11 th aw ai ab ac hi re aP ta po en be de fa a5 sp av an ak ne aW aC ag aT aN aF), (aw, .inl (cI, 2179, .inl fw)), (aT, .inl (cJ, 550, .inr (.inl fT))), (aN, .inl (cJ, 550, .inr (.inl fN)))] H := by rw [hH0]; exact hP
  refine kHeap hH0 ?_
  clear hH0
  refine lv_iload_n hx hb dX11_tornBy_0 rfl (lv_at hl 1 rfl) ?_
  refine lv_bipush (v := 54) hx hb dX11_tornBy_1 (by decide) ?_
  refine lv_icmp_le (tgt := 8) hx hb dX11_tornBy_3 (by decide) (fun c1 => ?_) (fun c1 => ?_)
  · skip
    have k2 : Rg a1 0 54 := rg_e1 (leI c1) H_a1 (rg_lit (n := 54) (by decide)) (by decide)
    refine lv_iconst (v := 0) hx hb dX11_tornBy_8 (by decide) ?_
    refine lv_istore (lv' := [(4, .int 0), (0, .ref h), (1, .int a1), (2, .int b1), (3, .int vc)]) hx hb dX11_tornBy_9 hl (by decide) rfl (fun ls hl => ?_)
    refine k_loop (hd := 11) (fun (u : Int32 × (Nat → Int64)) => match u with | (y121, g122) => (550 - (y121).toInt).toNat) (fun (u : Int32 × (Nat → Int64)) (H : Heap) (locs : List Loc) (ls : Array Slot) => match u with | (y121, g122) => Rg y121 0 550 ∧ va_P D vwCl [(h, oX11 th aw ai ab ac hi re aP ta po en be de fa a5 sp av an ak ne aW aC ag aT aN aF), (aw, .inl (cI, 2179, .inl fw)), (aT, .inl (cJ, 550, .inr (.inl g122))), (aN, .inl (cJ, 550, .inr (.inl fN)))] H ∧ va_D A [(h, oX11 th aw ai ab ac hi re aP ta po en be de fa a5 sp av an ak ne aW aC ag aT aN aF), (aw, .inl (cI, 2179, .inl fw)), (aT, .inl (cJ, 550, .inr (.inl g122))), (aN, .inl (cJ, 550, .inr (.inl fN)))] ∧ va_S A s.heap H locs ∧ lv_has ls 9 [(4, .int y121), (0, .ref h), (1, .int a1), (2, .int b1), (3, .int vc)]) ((0 : Int32), fT) ⟨(rg_w (rg_lit (n := 0) (by decide)) (by decide)), hP.sub (ws' := [(h, oX11 th aw ai ab ac hi re aP ta po en be de fa a5 sp av an ak ne aW aC ag aT aN aF), (aw, .inl (cI, 2179, .inl fw)), (aT, .inl (cJ, 550, .inr (.inl fT))), (aN, .inl (cJ, 550, .inr (.inl fN)))]) [0, 1, 2, 3] rfl, hD.sub (ws' := [(h, oX11 th aw ai ab ac hi re aP ta po en be de fa a5 sp av an ak ne aW aC ag aT aN aF), (aw, .inl (cI, 2179, .inl fw)), (aT, .inl (cJ, 550, .inr (.inl fT))), (aN, .inl (cJ, 550, .inr (.inl fN)))]) [0, 1, 2, 3] (by decide) rfl, hS, lv_sub (l' := [(4, .int 0), (0, .ref h), (1, .int a1), (2, .int b1), (3, .int vc)]) hl [0, 1, 2, 3, 4] rfl⟩ (fun u H locs ls hI ih123 => ?_)
    clear hP hD hS hl
    obtain ⟨y121, g122⟩ := u
    obtain ⟨hy121, hP, hD, hS, hl⟩ := hI
    have hP : va_P D vwCl [(h, oX11 th aw ai ab ac hi re aP ta po en be de fa a5 sp av an ak ne aW aC ag aT aN aF), (aw, .inl (cI, 2179, .inl fw)), (aT, .inl (cJ, 550, .inr (.inl g122))), (aN, .inl (cJ, 550, .inr (.inl fN)))] H := hP
    have hD : va_D A [(h, oX11 th aw ai ab ac hi re aP ta po en be de fa a5 sp av an ak ne aW aC ag aT aN aF), (aw, .inl (cI, 2179, .inl fw)), (aT, .inl (cJ, 550, .inr (.inl g122))), (aN, .inl (cJ, 550, .inr (.inl fN)))] := hD
    have hl : lv_has ls 9 [(4, .int y121), (0, .ref h), (1, .int a1), (2, .int b1), (3, .int vc)] := hl
    refine lv_iload hx hb dX11_tornBy_11 (lv_at hl 0 rfl) ?_
    refine lv_sipush (v := 550) hx hb dX11_tornBy_13 (by decide) ?_
    refine lv_icmp_ge (tgt := 33) hx hb dX11_tornBy_16 (by decide) (fun c124 => ?_) (fun c124 => ?_)
    · skip
      have k125 : Rg y121 550 550 := rg_e2 (leI c124) (rg_lit (n := 550) (by decide)) hy121 (by decide)
      refine lv_iconst (v := 0) hx hb dX11_tornBy_33 (by decide) ?_
      refine lv_istore (lv' := [(4, .int 0), (0, .ref h), (1, .int a1), (2, .int b1), (3, .int vc)]) hx hb dX11_tornBy_34 hl (by decide) rfl (fun ls hl => ?_)
      refine k_loop (hd := 36) (fun (u : Int32 × (Nat → Int64)) => match u with | (y472, g473) => (10 - (y472).toInt).toNat) (fun (u : Int32 × (Nat → Int64)) (H : Heap) (locs : List Loc) (ls : Array Slot) => match u with | (y472, g473) => Rg y472 0 10 ∧ va_P D vwCl [(h, oX11 th aw ai ab ac hi re aP ta po en be de fa a5 sp av an ak ne aW aC ag aT aN aF), (aw, .inl (cI, 2179, .inl fw)), (aT, .inl (cJ, 550, .inr (.inl g473))), (aN, .inl (cJ, 550, .inr (.inl fN)))] H ∧ va_D A [(h, oX11 th aw ai ab ac hi re aP ta po en be de fa a5 sp av an ak ne aW aC ag aT aN aF), (aw, .inl (cI, 2179, .inl fw)), (aT, .inl (cJ, 550, .inr (.inl g473))), (aN, .inl (cJ, 550, .inr (.inl fN)))] ∧ va_S A s.heap H locs ∧ lv_has ls 9 [(4, .int y472), (0, .ref h), (1, .int a1), (2, .int b1), (3, .int vc)]) ((0 : Int32), g122) ⟨(rg_w (rg_lit (n := 0) (by decide)) (by decide)), hP.sub (ws' := [(h, oX11 th aw ai ab ac hi re aP ta po en be de fa a5 sp av an ak ne aW aC ag aT aN aF), (aw, .inl (cI, 2179, .inl fw)), (aT, .inl (cJ, 550, .inr (.inl g122))), (aN, .inl (cJ, 550, .inr (.inl fN)))]) [0, 1, 2, 3] rfl, hD.sub (ws' := [(h, oX11 th aw ai ab ac hi re aP ta po en be de fa a5 sp av an ak ne aW aC ag aT aN aF), (aw, .inl (cI, 2179, .inl fw)), (aT, .inl (cJ, 550, .inr (.inl g122))), (aN, .inl (cJ, 550, .inr (.inl fN)))]) [0, 1, 2, 3] (by decide) rfl, hS, lv_sub (l' := [(4, .int 0), (0, .ref h), (1, .int a1), (2, .int b1), (3, .int vc)]) hl [0, 1, 2, 3, 4] rfl⟩ (fun u H locs ls hI ih474 => ?_)
      clear hP hD hS hl
      obtain ⟨y472, g473⟩ := u
      obtain ⟨hy472, hP, hD, hS, hl⟩ := hI
      have hP : va_P D vwCl [(h, oX11 th aw ai ab ac hi re aP ta po en be de fa a5 sp av an ak ne aW aC ag aT aN aF), (aw, .inl (cI, 2179, .inl fw)), (aT, .inl (cJ, 550, .inr (.inl g473))), (aN, .inl (cJ, 550, .inr (.inl fN)))] H := hP
      have hD : va_D A [(h, oX11 th aw ai ab ac hi re aP ta po en be de fa a5 sp av an ak ne aW aC ag aT aN aF), (aw, .inl (cI, 2179, .inl fw)), (aT, .inl (cJ, 550, .inr (.inl g473))), (aN, .inl (cJ, 550, .inr (.inl fN)))] := hD
      have hl : lv_has ls 9 [(4, .int y472), (0, .ref h), (1, .int a1), (2, .int b1), (3, .int vc)] := hl
      refine lv_iload hx hb dX11_tornBy_36 (lv_at hl 0 rfl) ?_
      refine lv_aload_n hx hb dX11_tornBy_38 rfl (lv_at hl 1 rfl) ?_
      refine kpurei (wc := [(h, oX11 th aw ai ab ac hi re aP ta po en be de fa a5 sp av an ak ne aW aC ag aT aN aF), (aw, .inl (cI, 2179, .inl fw))]) hP hD hS hA [0, 1] rfl (by decide) (fun hPc hDc hFc => va_runV (As := []) (rest := [.int y472]) ⟨hx, hb, hml, hown, hts⟩ (r_men l D cI cJ cB cC h th aw ai ab ac hi re aP ta po en be de fa a5 sp av an ak ne aW aC ag aT aN aF fw H.size H_fw_W) (cwV 0 hts gX11_tornBy_X11_men rfl rfl rfl ⟨rfl, hdX11_men⟩ ⟨Nat.le_of_ble_eq_true rfl, Nat.le_of_ble_eq_true rfl⟩) ⟨kBlind, va_recv hK hPc (ci := 10) (q0 := 0) rfl rfl, fun U hU hW => ⟨rfl, by rw [hU], hN.warm hW, hE.pass hS hFc hW hU, by rw [hU]; exact hPc, va_K.moved hW.alike hK, hDc⟩⟩ rfl rfl hl.1 rfl (lv_room (Nat.le_of_ble_eq_true rfl)) dX11_tornBy_39 ⟨Nat.le_of_ble_eq_true rfl, Nat.le_of_ble_eq_true rfl⟩) (fun r475 u H locs hw hP hS => ?_)
      obtain ⟨k476, k477⟩ := hw
      refine lv_icmp_ge (tgt := 80) hx hb dX11_tornBy_42 (by decide) (fun c478 => ?_) (fun c478 => ?_)
      · skip
        refine lv_iconst (v := 1) hx hb dX11_tornBy_80 (by decide) ?_
        refine lv_istore (lv' := [(4, .int 1), (0, .ref h), (1, .int a1), (2, .int b1), (3, .int vc)]) hx hb dX11_tornBy_81 hl (by decide) rfl (fun ls hl => ?_)
        refine k_loop (hd := 83) (fun (u : Int32 × (Nat → Int64) × (Nat → Int64)) => match u with | (y1108923, g1108924, g1108925) => (2147483647 - (y1108923).toInt).toNat) (fun (u : Int32 × (Nat → Int64) × (Nat → Int64)) (H : Heap) (locs : List Loc) (ls : Array Slot) => match u with | (y1108923, g1108924, g1108925) => Rg y1108923 1 2147483647 ∧ va_P D vwCl [(h, oX11 th aw ai ab ac hi re aP ta po en be de fa a5 sp av an ak ne aW aC ag aT aN aF), (aw, .inl (cI, 2179, .inl fw)), (aT, .inl (cJ, 550, .inr (.inl g1108924))), (aN, .inl (cJ, 550, .inr (.inl g1108925)))] H ∧ va_D A [(h, oX11 th aw ai ab ac hi re aP ta po en be de fa a5 sp av an ak ne aW aC ag aT aN aF), (aw, .inl (cI, 2179, .inl fw)), (aT, .inl (cJ, 550, .inr (.inl g1108924))), (aN, .inl (cJ, 550, .inr (.inl g1108925)))] ∧ va_S A s.heap H locs ∧ lv_has ls 9 [(4, .int y1108923), (0, .ref h), (1, .int a1), (2, .int b1), (3, .int vc)]) ((1 : Int32), g473, fN) ⟨(rg_w (rg_lit (n := 1) (by decide)) (by decide)), hP.sub (ws' := [(h, oX11 th aw ai ab ac hi re aP ta po en be de fa a5 sp av an ak ne aW aC ag aT aN aF), (aw, .inl (cI, 2179, .inl fw)), (aT, .inl (cJ, 550, .inr (.inl g473))), (aN, .inl (cJ, 550, .inr (.inl fN)))]) [0, 1, 2, 3] rfl, hD.sub (ws' := [(h, oX11 th aw ai ab ac hi re aP ta po en be de fa a5 sp av an ak ne aW aC ag aT aN aF), (aw, .inl (cI, 2179, .inl fw)), (aT, .inl (cJ, 550, .inr (.inl g473))), (aN, .inl (cJ, 550, .inr (.inl fN)))]) [0, 1, 2, 3] (by decide) rfl, hS, lv_sub (l' := [(4, .int 1), (0, .ref h), (1, .int a1), (2, .int b1), (3, .int vc)]) hl [0, 1, 2, 3, 4] rfl⟩ (fun u H locs ls hI ih1108926 => ?_)
        clear hP hD hS hl
        obtain ⟨y1108923, g1108924, g1108925⟩ := u
        obtain ⟨hy1108923, hP, hD, hS, hl⟩ := hI
        have hP : va_P D vwCl [(h, oX11 th aw ai ab ac hi re aP ta po en be de fa a5 sp av an ak ne aW aC ag aT aN aF), (aw, .inl (cI, 2179, .inl fw)), (aT, .inl (cJ, 550, .inr (.inl g1108924))), (aN, .inl (cJ, 550, .inr (.inl g1108925)))] H := hP
        have hD : va_D A [(h, oX11 th aw ai ab ac hi re aP ta po en be de fa a5 sp av an ak ne aW aC ag aT aN aF), (aw, .inl (cI, 2179, .inl fw)), (aT, .inl (cJ, 550, .inr (.inl g1108924))), (aN, .inl (cJ, 550, .inr (.inl g1108925)))] := hD
        have hl : lv_has ls 9 [(4, .int y1108923), (0, .ref h), (1, .int a1), (2, .int b1), (3, .int vc)] := hl
        refine lv_iload hx hb dX11_tornBy_83 (lv_at hl 0 rfl) ?_
        refine lv_iload_n hx hb dX11_tornBy_85 rfl (lv_at hl 3 rfl) ?_
        refine lv_icmp_ge (tgt := 274) hx hb dX11_tornBy_86 (by decide) (fun c1108927 => ?_) (fun c1108927 => ?_)
        · skip
          refine lv_lconst (v := 0) hx hb dX11_tornBy_274 (by decide) ?_
          refine lv_lstore (lv' := [(4, .long 0), (0, .ref h), (1, .int a1), (2, .int b1), (3, .int vc)]) hx hb dX11_tornBy_275 hl (by decide) rfl (fun ls hl => ?_)
          refine lv_iconst (v := 0) hx hb dX11_tornBy_277 (by decide) ?_
          refine lv_istore (lv' := [(6, .int 0), (4, .long 0), (0, .ref h), (1, .int a1), (2, .int b1), (3, .int vc)]) hx hb dX11_tornBy_278 hl (by decide) rfl (fun ls hl => ?_)
          refine k_loop (hd := 280) (fun (u : Int32 × Int64) => match u with | (y1109178, y1109179) => (10 - (y1109178).toInt).toNat) (fun (u : Int32 × Int64) (H : Heap) (locs : List Loc) (ls : Array Slot) => match u with | (y1109178, y1109179) => Rg y1109178 0 10 ∧ va_P D vwCl [(h, oX11 th aw ai ab ac hi re aP ta po en be de fa a5 sp av an ak ne aW aC ag aT aN aF), (aw, .inl (cI, 2179, .inl fw)), (aT, .inl (cJ, 550, .inr (.inl g1108924))), (aN, .inl (cJ, 550, .inr (.inl g1108925)))] H ∧ va_D A [(h, oX11 th aw ai ab ac hi re aP ta po en be de fa a5 sp av an ak ne aW aC ag aT aN aF), (aw, .inl (cI, 2179, .inl fw)), (aT, .inl (cJ, 550, .inr (.inl g1108924))), (aN, .inl (cJ, 550, .inr (.inl g1108925)))] ∧ va_S A s.heap H locs ∧ lv_has ls 9 [(6, .int y1109178), (4, .long y1109179), (0, .ref h), (1, .int a1), (2, .int b1), (3, .int vc)]) ((0 : Int32), (0 : Int64)) ⟨(rg_w (rg_lit (n := 0) (by decide)) (by decide)), hP.sub (ws' := [(h, oX11 th aw ai ab ac hi re aP ta po en be de fa a5 sp av an ak ne aW aC ag aT aN aF), (aw, .inl (cI, 2179, .inl fw)), (aT, .inl (cJ, 550, .inr (.inl g1108924))), (aN, .inl (cJ, 550, .inr (.inl g1108925)))]) [0, 1, 2, 3] rfl, hD.sub (ws' := [(h, oX11 th aw ai ab ac hi re aP ta po en be de fa a5 sp av an ak ne aW aC ag aT aN aF), (aw, .inl (cI, 2179, .inl fw)), (aT, .inl (cJ, 550, .inr (.inl g1108924))), (aN, .inl (cJ, 550, .inr (.inl g1108925)))]) [0, 1, 2, 3] (by decide) rfl, hS, lv_sub (l' := [(6, .int 0), (4, .long 0), (0, .ref h), (1, .int a1), (2, .int b1), (3, .int vc)]) hl [0, 1, 2, 3, 4, 5] rfl⟩ (fun u H locs ls hI ih1109180 => ?_)
          clear hP hD hS hl
          obtain ⟨y1109178, y1109179⟩ := u
          obtain ⟨hy1109178, hP, hD, hS, hl⟩ := hI
          have hP : va_P D vwCl [(h, oX11 th aw ai ab ac hi re aP ta po en be de fa a5 sp av an ak ne aW aC ag aT aN aF), (aw, .inl (cI, 2179, .inl fw)), (aT, .inl (cJ, 550, .inr (.inl g1108924))), (aN, .inl (cJ, 550, .inr (.inl g1108925)))] H := hP
          have hD : va_D A [(h, oX11 th aw ai ab ac hi re aP ta po en be de fa a5 sp av an ak ne aW aC ag aT aN aF), (aw, .inl (cI, 2179, .inl fw)), (aT, .inl (cJ, 550, .inr (.inl g1108924))), (aN, .inl (cJ, 550, .inr (.inl g1108925)))] := hD
          have hl : lv_has ls 9 [(6, .int y1109178), (4, .long y1109179), (0, .ref h), (1, .int a1), (2, .int b1), (3, .int vc)] := hl
          refine lv_iload hx hb dX11_tornBy_280 (lv_at hl 0 rfl) ?_
          refine lv_aload_n hx hb dX11_tornBy_282 rfl (lv_at hl 2 rfl) ?_
          refine kpurei (wc := [(h, oX11 th aw ai ab ac hi re aP ta po en be de fa a5 sp av an ak ne aW aC ag aT aN aF), (aw, .inl (cI, 2179, .inl fw))]) hP hD hS hA [0, 1] rfl (by decide) (fun hPc hDc hFc => va_runV (As := []) (rest := [.int y1109178]) ⟨hx, hb, hml, hown, hts⟩ (r_men l D cI cJ cB cC h th aw ai ab ac hi re aP ta po en be de fa a5 sp av an ak ne aW aC ag aT aN aF fw H.size H_fw_W) (cwV 0 hts gX11_tornBy_X11_men rfl rfl rfl ⟨rfl, hdX11_men⟩ ⟨Nat.le_of_ble_eq_true rfl, Nat.le_of_ble_eq_true rfl⟩) ⟨kBlind, va_recv hK hPc (ci := 10) (q0 := 0) rfl rfl, fun U hU hW => ⟨rfl, by rw [hU], hN.warm hW, hE.pass hS hFc hW hU, by rw [hU]; exact hPc, va_K.moved hW.alike hK, hDc⟩⟩ rfl rfl hl.1 rfl (lv_room (Nat.le_of_ble_eq_true rfl)) dX11_tornBy_283 ⟨Nat.le_of_ble_eq_true rfl, Nat.le_of_ble_eq_true rfl⟩) (fun r1109181 u H locs hw hP hS => ?_)
          obtain ⟨k1109182, k1109183⟩ := hw
          obtain rfl : r475 = r1109181 := k476.trans k1109182.symm
          refine lv_icmp_ge (tgt := 312) hx hb dX11_tornBy_286 (by decide) (fun c1109184 => ?_) (fun c1109184 => ?_)
          · skip
            refine lv_lload hx hb dX11_tornBy_312 (lv_at hl 1 rfl) ?_
            have hP9 := hP.sub (ws' := [(h, oX11 th aw ai ab ac hi re aP ta po en be de fa a5 sp av an ak ne aW aC ag aT aN aF), (aw, .inl (cI, 2179, .inl fw)), (aT, .inl (cJ, 550, .inr (.inl g1108924))), (aN, .inl (cJ, 550, .inr (.inl g1108925)))]) [0, 1, 2, 3] rfl
            have hD9 := hD.sub (ws' := [(h, oX11 th aw ai ab ac hi re aP ta po en be de fa a5 sp av an ak ne aW aC ag aT aN aF), (aw, .inl (cI, 2179, .inl fw)), (aT, .inl (cJ, 550, .inr (.inl g1108924))), (aN, .inl (cJ, 550, .inr (.inl g1108925)))]) [0, 1, 2, 3] (by decide) rfl
            exact W.lret (v := y1109179) hx hb hr (fun t ht hW => ⟨⟨y1109179, (g1108924, g1108925), rfl, trivial, by rw [ht]; exact hP9, va_K.moved hW.alike hK, hD9⟩, hS.F ht⟩) hS.2.2 dX11_tornBy_314
          · skip
            have k1109185 : Rg y1109178 0 9 := rg_l1 (nleI c1109184) hy1109178 k477 (by decide)
            have k1109186 : Rg r475 1 10 := rg_l2 (nleI c1109184) hy1109178 k477 (by decide)
            refine lv_lload hx hb dX11_tornBy_289 (lv_at hl 1 rfl) ?_
            refine lv_aload_n hx hb dX11_tornBy_291 rfl (lv_at hl 2 rfl) ?_
            refine va_get (D := D) (ci := 10) (v := .ref aT) (C := RX11) (T := TX11) (N := 26) hx hb hts iG_X11 hown hK hP 0 rfl rfl 23 (by decide) (hts _ w5_17) (fun _ h9 => h9) rfl dX11_tornBy_292 ?_
            refine lv_bipush (v := 55) hx hb dX11_tornBy_295 (by decide) ?_
            refine lv_iload hx hb dX11_tornBy_297 (lv_at hl 0 rfl) ?_
            refine lv_imul hx hb dX11_tornBy_299 ?_
            refine lv_topi (fun x1109187 ex1109187 => ?_)
            have tx1109187 : x1109187.toInt = 55 * y1109178.toInt := ti_mul ex1109187 (rg_lit (n := 55) (by decide)) k1109185 (by decide) (by decide) rfl
            have k1109188 : Rg x1109187 0 495 := rg_mul ex1109187 (rg_lit (n := 55) (by decide)) k1109185 (by decide)
            refine lv_iload_n hx hb dX11_tornBy_300 rfl (lv_at hl 3 rfl) ?_
            refine lv_iadd hx hb dX11_tornBy_301 ?_
            refine lv_topi (fun x1109189 ex1109189 => ?_)
            have tx1109189 : x1109189.toInt = x1109187.toInt + a1.toInt := ti_add ex1109189 k1109188 k2 (by decide) rfl rfl
            have k1109190 : Rg x1109189 0 549 := rg_add ex1109189 k1109188 k2 (by decide)
            refine va_lald hx hb hK hP 2 1 rfl rfl (rg_in k1109190 (by decide)) dX11_tornBy_302 ?_
            refine lv_topl (fun x1109191 ex1109191 => ?_)
            clear ex1109191
            refine lv_ladd hx hb dX11_tornBy_303 ?_
            refine lv_topl (fun x1109192 ex1109192 => ?_)
            clear ex1109192
            refine lv_lstore (lv' := [(4, .long x1109192), (6, .int y1109178), (0, .ref h), (1, .int a1), (2, .int b1), (3, .int vc)]) hx hb dX11_tornBy_304 hl (by decide) rfl (fun ls hl => ?_)
            obtain ⟨x1109193, ex1109193⟩ : ∃ y : Int32, y = y1109178 + 1 := ⟨_, rfl⟩
            refine lv_iinc (v := x1109193) (lv' := [(6, .int x1109193), (4, .long x1109192), (0, .ref h), (1, .int a1), (2, .int b1), (3, .int vc)]) hx hb dX11_tornBy_306 hl (k := 1) rfl (by rw [ex1109193]; rfl) (by decide) rfl (fun ls hl => ?_)
            have k1109194 : Rg x1109193 1 10 := rg_add ex1109193 k1109185 (rg_lit (n := 1) (by decide)) (by decide)
            refine lv_goto (tgt := 280) hx hb dX11_tornBy_309 (by decide) ?_
            exact ih1109180 (x1109193, x1109192) _ _ _ (by show (10 - (x1109193).toInt).toNat < (10 - (y1109178).toInt).toNat; exact mu_up ex1109193 k1109185 k1109194 (by decide)) ⟨(rg_w k1109194 (by decide)), hP.sub (ws' := [(h, oX11 th aw ai ab ac hi re aP ta po en be de fa a5 sp av an ak ne aW aC ag aT aN aF), (aw, .inl (cI, 2179, .inl fw)), (aT, .inl (cJ, 550, .inr (.inl g1108924))), (aN, .inl (cJ, 550, .inr (.inl g1108925)))]) [0, 1, 2, 3] rfl, hD.sub (ws' := [(h, oX11 th aw ai ab ac hi re aP ta po en be de fa a5 sp av an ak ne aW aC ag aT aN aF), (aw, .inl (cI, 2179, .inl fw)), (aT, .inl (cJ, 550, .inr (.inl g1108924))), (aN, .inl (cJ, 550, .inr (.inl g1108925)))]) [0, 1, 2, 3] (by decide) rfl, hS, lv_sub (l' := [(6, .int x1109193), (4, .long x1109192), (0, .ref h), (1, .int a1), (2, .int b1), (3, .int vc)]) hl [0, 1, 2, 3, 4, 5] rfl⟩
        · skip
          have k1109195 : Rg y1108923 1 2147483646 := rg_l1 (nleI c1108927) hy1108923 (rg_any b1) (by decide)
          have k1109196 : Rg b1 2 2147483647 := rg_l2 (nleI c1108927) hy1108923 (rg_any b1) (by decide)
          refine lv_iconst (v := 0) hx hb dX11_tornBy_89 (by decide) ?_
          refine lv_istore (lv' := [(5, .int 0), (4, .int y1108923), (0, .ref h), (1, .int a1), (2, .int b1), (3, .int vc)]) hx hb dX11_tornBy_90 hl (by decide) rfl (fun ls hl => ?_)
          refine k_loop (hd := 92) (fun (u : Int32 × (Nat → Int64)) => match u with | (y1109315, g1109316) => (550 - (y1109315).toInt).toNat) (fun (u : Int32 × (Nat → Int64)) (H : Heap) (locs : List Loc) (ls : Array Slot) => match u with | (y1109315, g1109316) => Rg y1109315 0 550 ∧ va_P D vwCl [(h, oX11 th aw ai ab ac hi re aP ta po en be de fa a5 sp av an ak ne aW aC ag aT aN aF), (aw, .inl (cI, 2179, .inl fw)), (aT, .inl (cJ, 550, .inr (.inl g1108924))), (aN, .inl (cJ, 550, .inr (.inl g1109316)))] H ∧ va_D A [(h, oX11 th aw ai ab ac hi re aP ta po en be de fa a5 sp av an ak ne aW aC ag aT aN aF), (aw, .inl (cI, 2179, .inl fw)), (aT, .inl (cJ, 550, .inr (.inl g1108924))), (aN, .inl (cJ, 550, .inr (.inl g1109316)))] ∧ va_S A s.heap H locs ∧ lv_has ls 9 [(5, .int y1109315), (4, .int y1108923), (0, .ref h), (1, .int a1), (2, .int b1), (3, .int vc)]) ((0 : Int32), g1108925) ⟨(rg_w (rg_lit (n := 0) (by decide)) (by decide)), hP.sub (ws' := [(h, oX11 th aw ai ab ac hi re aP ta po en be de fa a5 sp av an ak ne aW aC ag aT aN aF), (aw, .inl (cI, 2179, .inl fw)), (aT, .inl (cJ, 550, .inr (.inl g1108924))), (aN, .inl (cJ, 550, .inr (.inl g1108925)))]) [0, 1, 2, 3] rfl, hD.sub (ws' := [(h, oX11 th aw ai ab ac hi re aP ta po en be de fa a5 sp av an ak ne aW aC ag aT aN aF), (aw, .inl (cI, 2179, .inl fw)), (aT, .inl (cJ, 550, .inr (.inl g1108924))), (aN, .inl (cJ, 550, .inr (.inl g1108925)))]) [0, 1, 2, 3] (by decide) rfl, hS, lv_sub (l' := [(5, .int 0), (4, .int y1108923), (0, .ref h), (1, .int a1), (2, .int b1), (3, .int vc)]) hl [0, 1, 2, 3, 4, 5] rfl⟩ (fun u H locs ls hI ih1109317 => ?_)
          clear hP hD hS hl
          obtain ⟨y1109315, g1109316⟩ := u
          obtain ⟨hy1109315, hP, hD, hS, hl⟩ := hI
          have hP : va_P D vwCl [(h, oX11 th aw ai ab ac hi re aP ta po en be de fa a5 sp av an ak ne aW aC ag aT aN aF), (aw, .inl (cI, 2179, .inl fw)), (aT, .inl (cJ, 550, .inr (.inl g1108924))), (aN, .inl (cJ, 550, .inr (.inl g1109316)))] H := hP
          have hD : va_D A [(h, oX11 th aw ai ab ac hi re aP ta po en be de fa a5 sp av an ak ne aW aC ag aT aN aF), (aw, .inl (cI, 2179, .inl fw)), (aT, .inl (cJ, 550, .inr (.inl g1108924))), (aN, .inl (cJ, 550, .inr (.inl g1109316)))] := hD
          have hl : lv_has ls 9 [(5, .int y1109315), (4, .int y1108923), (0, .ref h), (1, .int a1), (2, .int b1), (3, .int vc)] := hl
          refine lv_iload hx hb dX11_tornBy_92 (lv_at hl 0 rfl) ?_
          refine lv_sipush (v := 550) hx hb dX11_tornBy_94 (by decide) ?_
          refine lv_icmp_ge (tgt := 114) hx hb dX11_tornBy_97 (by decide) (fun c1109318 => ?_) (fun c1109318 => ?_)
          · skip
            have k1109319 : Rg y1109315 550 550 := rg_e2 (leI c1109318) (rg_lit (n := 550) (by decide)) hy1109315 (by decide)
            refine lv_iconst (v := 0) hx hb dX11_tornBy_114 (by decide) ?_
            refine lv_istore (lv' := [(5, .int 0), (4, .int y1108923), (0, .ref h), (1, .int a1), (2, .int b1), (3, .int vc)]) hx hb dX11_tornBy_115 hl (by decide) rfl (fun ls hl => ?_)
            refine k_loop (hd := 117) (fun (u : Int32 × (Nat → Int64)) => match u with | (y1224922, g1224923) => (10 - (y1224922).toInt).toNat) (fun (u : Int32 × (Nat → Int64)) (H : Heap) (locs : List Loc) (ls : Array Slot) => match u with | (y1224922, g1224923) => Rg y1224922 0 10 ∧ va_P D vwCl [(h, oX11 th aw ai ab ac hi re aP ta po en be de fa a5 sp av an ak ne aW aC ag aT aN aF), (aw, .inl (cI, 2179, .inl fw)), (aT, .inl (cJ, 550, .inr (.inl g1108924))), (aN, .inl (cJ, 550, .inr (.inl g1224923)))] H ∧ va_D A [(h, oX11 th aw ai ab ac hi re aP ta po en be de fa a5 sp av an ak ne aW aC ag aT aN aF), (aw, .inl (cI, 2179, .inl fw)), (aT, .inl (cJ, 550, .inr (.inl g1108924))), (aN, .inl (cJ, 550, .inr (.inl g1224923)))] ∧ va_S A s.heap H locs ∧ lv_has ls 9 [(5, .int y1224922), (4, .int y1108923), (0, .ref h), (1, .int a1), (2, .int b1), (3, .int vc)]) ((0 : Int32), g1109316) ⟨(rg_w (rg_lit (n := 0) (by decide)) (by decide)), hP.sub (ws' := [(h, oX11 th aw ai ab ac hi re aP ta po en be de fa a5 sp av an ak ne aW aC ag aT aN aF), (aw, .inl (cI, 2179, .inl fw)), (aT, .inl (cJ, 550, .inr (.inl g1108924))), (aN, .inl (cJ, 550, .inr (.inl g1109316)))]) [0, 1, 2, 3] rfl, hD.sub (ws' := [(h, oX11 th aw ai ab ac hi re aP ta po en be de fa a5 sp av an ak ne aW aC ag aT aN aF), (aw, .inl (cI, 2179, .inl fw)), (aT, .inl (cJ, 550, .inr (.inl g1108924))), (aN, .inl (cJ, 550, .inr (.inl g1109316)))]) [0, 1, 2, 3] (by decide) rfl, hS, lv_sub (l' := [(5, .int 0), (4, .int y1108923), (0, .ref h), (1, .int a1), (2, .int b1), (3, .int vc)]) hl [0, 1, 2, 3, 4, 5] rfl⟩ (fun u H locs ls hI ih1224924 => ?_)
            clear hP hD hS hl
            obtain ⟨y1224922, g1224923⟩ := u
            obtain ⟨hy1224922, hP, hD, hS, hl⟩ := hI
            have hP : va_P D vwCl [(h, oX11 th aw ai ab ac hi re aP ta po en be de fa a5 sp av an ak ne aW aC ag aT aN aF), (aw, .inl (cI, 2179, .inl fw)), (aT, .inl (cJ, 550, .inr (.inl g1108924))), (aN, .inl (cJ, 550, .inr (.inl g1224923)))] H := hP
            have hD : va_D A [(h, oX11 th aw ai ab ac hi re aP ta po en be de fa a5 sp av an ak ne aW aC ag aT aN aF), (aw, .inl (cI, 2179, .inl fw)), (aT, .inl (cJ, 550, .inr (.inl g1108924))), (aN, .inl (cJ, 550, .inr (.inl g1224923)))] := hD
            have hl : lv_has ls 9 [(5, .int y1224922), (4, .int y1108923), (0, .ref h), (1, .int a1), (2, .int b1), (3, .int vc)] := hl
            refine lv_iload hx hb dX11_tornBy_117 (lv_at hl 0 rfl) ?_
            refine lv_aload_n hx hb dX11_tornBy_119 rfl (lv_at hl 2 rfl) ?_
            refine kpurei (wc := [(h, oX11 th aw ai ab ac hi re aP ta po en be de fa a5 sp av an ak ne aW aC ag aT aN aF), (aw, .inl (cI, 2179, .inl fw))]) hP hD hS hA [0, 1] rfl (by decide) (fun hPc hDc hFc => va_runV (As := []) (rest := [.int y1224922]) ⟨hx, hb, hml, hown, hts⟩ (r_men l D cI cJ cB cC h th aw ai ab ac hi re aP ta po en be de fa a5 sp av an ak ne aW aC ag aT aN aF fw H.size H_fw_W) (cwV 0 hts gX11_tornBy_X11_men rfl rfl rfl ⟨rfl, hdX11_men⟩ ⟨Nat.le_of_ble_eq_true rfl, Nat.le_of_ble_eq_true rfl⟩) ⟨kBlind, va_recv hK hPc (ci := 10) (q0 := 0) rfl rfl, fun U hU hW => ⟨rfl, by rw [hU], hN.warm hW, hE.pass hS hFc hW hU, by rw [hU]; exact hPc, va_K.moved hW.alike hK, hDc⟩⟩ rfl rfl hl.1 rfl (lv_room (Nat.le_of_ble_eq_true rfl)) dX11_tornBy_120 ⟨Nat.le_of_ble_eq_true rfl, Nat.le_of_ble_eq_true rfl⟩) (fun r1224925 u H locs hw hP hS => ?_)
            obtain ⟨k1224926, k1224927⟩ := hw
            obtain rfl : r475 = r1224925 := k476.trans k1224926.symm
            refine lv_icmp_ge (tgt := 237) hx hb dX11_tornBy_123 (by decide) (fun c1224928 => ?_) (fun c1224928 => ?_)
            · skip
              refine lv_iconst (v := 0) hx hb dX11_tornBy_237 (by decide) ?_
              refine lv_istore (lv' := [(5, .int 0), (4, .int y1108923), (0, .ref h), (1, .int a1), (2, .int b1), (3, .int vc)]) hx hb dX11_tornBy_238 hl (by decide) rfl (fun ls hl => ?_)
              refine k_loop (hd := 240) (fun (u : Int32 × (Nat → Int64)) => match u with | (y1225063, g1225064) => (550 - (y1225063).toInt).toNat) (fun (u : Int32 × (Nat → Int64)) (H : Heap) (locs : List Loc) (ls : Array Slot) => match u with | (y1225063, g1225064) => Rg y1225063 0 550 ∧ va_P D vwCl [(h, oX11 th aw ai ab ac hi re aP ta po en be de fa a5 sp av an ak ne aW aC ag aT aN aF), (aw, .inl (cI, 2179, .inl fw)), (aT, .inl (cJ, 550, .inr (.inl g1225064))), (aN, .inl (cJ, 550, .inr (.inl g1224923)))] H ∧ va_D A [(h, oX11 th aw ai ab ac hi re aP ta po en be de fa a5 sp av an ak ne aW aC ag aT aN aF), (aw, .inl (cI, 2179, .inl fw)), (aT, .inl (cJ, 550, .inr (.inl g1225064))), (aN, .inl (cJ, 550, .inr (.inl g1224923)))] ∧ va_S A s.heap H locs ∧ lv_has ls 9 [(5, .int y1225063), (4, .int y1108923), (0, .ref h), (1, .int a1), (2, .int b1), (3, .int vc)]) ((0 : Int32), g1108924) ⟨(rg_w (rg_lit (n := 0) (by decide)) (by decide)), hP.sub (ws' := [(h, oX11 th aw ai ab ac hi re aP ta po en be de fa a5 sp av an ak ne aW aC ag aT aN aF), (aw, .inl (cI, 2179, .inl fw)), (aT, .inl (cJ, 550, .inr (.inl g1108924))), (aN, .inl (cJ, 550, .inr (.inl g1224923)))]) [0, 1, 2, 3] rfl, hD.sub (ws' := [(h, oX11 th aw ai ab ac hi re aP ta po en be de fa a5 sp av an ak ne aW aC ag aT aN aF), (aw, .inl (cI, 2179, .inl fw)), (aT, .inl (cJ, 550, .inr (.inl g1108924))), (aN, .inl (cJ, 550, .inr (.inl g1224923)))]) [0, 1, 2, 3] (by decide) rfl, hS, lv_sub (l' := [(5, .int 0), (4, .int y1108923), (0, .ref h), (1, .int a1), (2, .int b1), (3, .int vc)]) hl [0, 1, 2, 3, 4, 5] rfl⟩ (fun u H locs ls hI ih1225065 => ?_)
              clear hP hD hS hl
              obtain ⟨y1225063, g1225064⟩ := u
              obtain ⟨hy1225063, hP, hD, hS, hl⟩ := hI
              have hP : va_P D vwCl [(h, oX11 th aw ai ab ac hi re aP ta po en be de fa a5 sp av an ak ne aW aC ag aT aN aF), (aw, .inl (cI, 2179, .inl fw)), (aT, .inl (cJ, 550, .inr (.inl g1225064))), (aN, .inl (cJ, 550, .inr (.inl g1224923)))] H := hP
              have hD : va_D A [(h, oX11 th aw ai ab ac hi re aP ta po en be de fa a5 sp av an ak ne aW aC ag aT aN aF), (aw, .inl (cI, 2179, .inl fw)), (aT, .inl (cJ, 550, .inr (.inl g1225064))), (aN, .inl (cJ, 550, .inr (.inl g1224923)))] := hD
              have hl : lv_has ls 9 [(5, .int y1225063), (4, .int y1108923), (0, .ref h), (1, .int a1), (2, .int b1), (3, .int vc)] := hl
              refine lv_iload hx hb dX11_tornBy_240 (lv_at hl 0 rfl) ?_
              refine lv_sipush (v := 550) hx hb dX11_tornBy_242 (by decide) ?_
              refine lv_icmp_ge (tgt := 268) hx hb dX11_tornBy_245 (by decide) (fun c1225066 => ?_) (fun c1225066 => ?_)
              · skip
                have k1225067 : Rg y1225063 550 550 := rg_e2 (leI c1225066) (rg_lit (n := 550) (by decide)) hy1225063 (by decide)
                obtain ⟨x1225068, ex1225068⟩ : ∃ y : Int32, y = y1108923 + 1 := ⟨_, rfl⟩
                refine lv_iinc (v := x1225068) (lv' := [(4, .int x1225068), (5, .int y1225063), (0, .ref h), (1, .int a1), (2, .int b1), (3, .int vc)]) hx hb dX11_tornBy_268 hl (k := 1) rfl (by rw [ex1225068]; rfl) (by decide) rfl (fun ls hl => ?_)
                have k1225069 : Rg x1225068 2 2147483647 := rg_add ex1225068 k1109195 (rg_lit (n := 1) (by decide)) (by decide)
                refine lv_goto (tgt := 83) hx hb dX11_tornBy_271 (by decide) ?_
                exact ih1108926 (x1225068, g1225064, g1224923) _ _ _ (by show (2147483647 - (x1225068).toInt).toNat < (2147483647 - (y1108923).toInt).toNat; exact mu_up ex1225068 k1109195 k1225069 (by decide)) ⟨(rg_w k1225069 (by decide)), hP.sub (ws' := [(h, oX11 th aw ai ab ac hi re aP ta po en be de fa a5 sp av an ak ne aW aC ag aT aN aF), (aw, .inl (cI, 2179, .inl fw)), (aT, .inl (cJ, 550, .inr (.inl g1225064))), (aN, .inl (cJ, 550, .inr (.inl g1224923)))]) [0, 1, 2, 3] rfl, hD.sub (ws' := [(h, oX11 th aw ai ab ac hi re aP ta po en be de fa a5 sp av an ak ne aW aC ag aT aN aF), (aw, .inl (cI, 2179, .inl fw)), (aT, .inl (cJ, 550, .inr (.inl g1225064))), (aN, .inl (cJ, 550, .inr (.inl g1224923)))]) [0, 1, 2, 3] (by decide) rfl, hS, lv_sub (l' := [(4, .int x1225068), (0, .ref h), (1, .int a1), (2, .int b1), (3, .int vc)]) hl [0, 2, 3, 4, 5] rfl⟩
              · skip
                have k1225070 : Rg y1225063 0 549 := rg_l1 (nleI c1225066) hy1225063 (rg_lit (n := 550) (by decide)) (by decide)
                refine lv_aload_n hx hb dX11_tornBy_248 rfl (lv_at hl 2 rfl) ?_
                refine va_get (D := D) (ci := 10) (v := .ref aT) (C := RX11) (T := TX11) (N := 26) hx hb hts iG_X11 hown hK hP 0 rfl rfl 23 (by decide) (hts _ w5_17) (fun _ h9 => h9) rfl dX11_tornBy_249 ?_
                refine lv_iload hx hb dX11_tornBy_252 (lv_at hl 0 rfl) ?_
                refine lv_aload_n hx hb dX11_tornBy_254 rfl (lv_at hl 2 rfl) ?_
                refine va_get (D := D) (ci := 10) (v := .ref aN) (C := RX11) (T := TX11) (N := 26) hx hb hts iG_X11 hown hK hP 0 rfl rfl 24 (by decide) (hts _ w5_18) (fun _ h9 => h9) rfl dX11_tornBy_255 ?_
                refine lv_iload hx hb dX11_tornBy_258 (lv_at hl 0 rfl) ?_
                refine va_lald hx hb hK hP 3 1 rfl rfl (rg_in k1225070 (by decide)) dX11_tornBy_260 ?_
                refine lv_topl (fun x1225071 ex1225071 => ?_)
                clear ex1225071
                refine va_last hx hb hK hP hD hS 2 1 rfl rfl (rg_in k1225070 (by decide)) dX11_tornBy_261 (fun H locs hP hD hS => ?_)
                have hP : va_P D vwCl [(h, oX11 th aw ai ab ac hi re aP ta po en be de fa a5 sp av an ak ne aW aC ag aT aN aF), (aw, .inl (cI, 2179, .inl fw)), (aT, .inl (cJ, 550, .inr (.inl (vp_updL g1225064 y1225063.toNatClampNeg x1225071)))), (aN, .inl (cJ, 550, .inr (.inl g1224923)))] H := hP
                have hD : va_D A [(h, oX11 th aw ai ab ac hi re aP ta po en be de fa a5 sp av an ak ne aW aC ag aT aN aF), (aw, .inl (cI, 2179, .inl fw)), (aT, .inl (cJ, 550, .inr (.inl (vp_updL g1225064 y1225063.toNatClampNeg x1225071)))), (aN, .inl (cJ, 550, .inr (.inl g1224923)))] := hD
                generalize hge : (vp_updL g1225064 y1225063.toNatClampNeg x1225071) = g1225072 at hP hD
                clear hge
                obtain ⟨x1225073, ex1225073⟩ : ∃ y : Int32, y = y1225063 + 1 := ⟨_, rfl⟩
                refine lv_iinc (v := x1225073) (lv' := [(5, .int x1225073), (4, .int y1108923), (0, .ref h), (1, .int a1), (2, .int b1), (3, .int vc)]) hx hb dX11_tornBy_262 hl (k := 0) rfl (by rw [ex1225073]; rfl) (by decide) rfl (fun ls hl => ?_)
                have k1225074 : Rg x1225073 1 550 := rg_add ex1225073 k1225070 (rg_lit (n := 1) (by decide)) (by decide)
                refine lv_goto (tgt := 240) hx hb dX11_tornBy_265 (by decide) ?_
                exact ih1225065 (x1225073, g1225072) _ _ _ (by show (550 - (x1225073).toInt).toNat < (550 - (y1225063).toInt).toNat; exact mu_up ex1225073 k1225070 k1225074 (by decide)) ⟨(rg_w k1225074 (by decide)), hP.sub (ws' := [(h, oX11 th aw ai ab ac hi re aP ta po en be de fa a5 sp av an ak ne aW aC ag aT aN aF), (aw, .inl (cI, 2179, .inl fw)), (aT, .inl (cJ, 550, .inr (.inl g1225072))), (aN, .inl (cJ, 550, .inr (.inl g1224923)))]) [0, 1, 2, 3] rfl, hD.sub (ws' := [(h, oX11 th aw ai ab ac hi re aP ta po en be de fa a5 sp av an ak ne aW aC ag aT aN aF), (aw, .inl (cI, 2179, .inl fw)), (aT, .inl (cJ, 550, .inr (.inl g1225072))), (aN, .inl (cJ, 550, .inr (.inl g1224923)))]) [0, 1, 2, 3] (by decide) rfl, hS, lv_sub (l' := [(5, .int x1225073), (4, .int y1108923), (0, .ref h), (1, .int a1), (2, .int b1), (3, .int vc)]) hl [0, 1, 2, 3, 4, 5] rfl⟩
            · skip
              have k1225075 : Rg y1224922 0 9 := rg_l1 (nleI c1224928) hy1224922 k477 (by decide)
              have k1225076 : Rg r475 1 10 := rg_l2 (nleI c1224928) hy1224922 k477 (by decide)
              refine lv_iconst (v := 0) hx hb dX11_tornBy_126 (by decide) ?_
              refine lv_istore (lv' := [(6, .int 0), (5, .int y1224922), (4, .int y1108923), (0, .ref h), (1, .int a1), (2, .int b1), (3, .int vc)]) hx hb dX11_tornBy_127 hl (by decide) rfl (fun ls hl => ?_)
              refine k_loop (hd := 129) (fun (u : Int32 × (Nat → Int64)) => match u with | (y1231919, g1231920) => (10 - (y1231919).toInt).toNat) (fun (u : Int32 × (Nat → Int64)) (H : Heap) (locs : List Loc) (ls : Array Slot) => match u with | (y1231919, g1231920) => Rg y1231919 0 10 ∧ va_P D vwCl [(h, oX11 th aw ai ab ac hi re aP ta po en be de fa a5 sp av an ak ne aW aC ag aT aN aF), (aw, .inl (cI, 2179, .inl fw)), (aT, .inl (cJ, 550, .inr (.inl g1108924))), (aN, .inl (cJ, 550, .inr (.inl g1231920)))] H ∧ va_D A [(h, oX11 th aw ai ab ac hi re aP ta po en be de fa a5 sp av an ak ne aW aC ag aT aN aF), (aw, .inl (cI, 2179, .inl fw)), (aT, .inl (cJ, 550, .inr (.inl g1108924))), (aN, .inl (cJ, 550, .inr (.inl g1231920)))] ∧ va_S A s.heap H locs ∧ lv_has ls 9 [(6, .int y1231919), (5, .int y1224922), (4, .int y1108923), (0, .ref h), (1, .int a1), (2, .int b1), (3, .int vc)]) ((0 : Int32), g1224923) ⟨(rg_w (rg_lit (n := 0) (by decide)) (by decide)), hP.sub (ws' := [(h, oX11 th aw ai ab ac hi re aP ta po en be de fa a5 sp av an ak ne aW aC ag aT aN aF), (aw, .inl (cI, 2179, .inl fw)), (aT, .inl (cJ, 550, .inr (.inl g1108924))), (aN, .inl (cJ, 550, .inr (.inl g1224923)))]) [0, 1, 2, 3] rfl, hD.sub (ws' := [(h, oX11 th aw ai ab ac hi re aP ta po en be de fa a5 sp av an ak ne aW aC ag aT aN aF), (aw, .inl (cI, 2179, .inl fw)), (aT, .inl (cJ, 550, .inr (.inl g1108924))), (aN, .inl (cJ, 550, .inr (.inl g1224923)))]) [0, 1, 2, 3] (by decide) rfl, hS, lv_sub (l' := [(6, .int 0), (5, .int y1224922), (4, .int y1108923), (0, .ref h), (1, .int a1), (2, .int b1), (3, .int vc)]) hl [0, 1, 2, 3, 4, 5, 6] rfl⟩ (fun u H locs ls hI ih1231921 => ?_)
              clear hP hD hS hl
              obtain ⟨y1231919, g1231920⟩ := u
              obtain ⟨hy1231919, hP, hD, hS, hl⟩ := hI
              have hP : va_P D vwCl [(h, oX11 th aw ai ab ac hi re aP ta po en be de fa a5 sp av an ak ne aW aC ag aT aN aF), (aw, .inl (cI, 2179, .inl fw)), (aT, .inl (cJ, 550, .inr (.inl g1108924))), (aN, .inl (cJ, 550, .inr (.inl g1231920)))] H := hP
              have hD : va_D A [(h, oX11 th aw ai ab ac hi re aP ta po en be de fa a5 sp av an ak ne aW aC ag aT aN aF), (aw, .inl (cI, 2179, .inl fw)), (aT, .inl (cJ, 550, .inr (.inl g1108924))), (aN, .inl (cJ, 550, .inr (.inl g1231920)))] := hD
              have hl : lv_has ls 9 [(6, .int y1231919), (5, .int y1224922), (4, .int y1108923), (0, .ref h), (1, .int a1), (2, .int b1), (3, .int vc)] := hl
              refine lv_iload hx hb dX11_tornBy_129 (lv_at hl 0 rfl) ?_
              refine lv_aload_n hx hb dX11_tornBy_131 rfl (lv_at hl 3 rfl) ?_
              refine kpurei (wc := [(h, oX11 th aw ai ab ac hi re aP ta po en be de fa a5 sp av an ak ne aW aC ag aT aN aF), (aw, .inl (cI, 2179, .inl fw))]) hP hD hS hA [0, 1] rfl (by decide) (fun hPc hDc hFc => va_runV (As := []) (rest := [.int y1231919]) ⟨hx, hb, hml, hown, hts⟩ (r_men l D cI cJ cB cC h th aw ai ab ac hi re aP ta po en be de fa a5 sp av an ak ne aW aC ag aT aN aF fw H.size H_fw_W) (cwV 0 hts gX11_tornBy_X11_men rfl rfl rfl ⟨rfl, hdX11_men⟩ ⟨Nat.le_of_ble_eq_true rfl, Nat.le_of_ble_eq_true rfl⟩) ⟨kBlind, va_recv hK hPc (ci := 10) (q0 := 0) rfl rfl, fun U hU hW => ⟨rfl, by rw [hU], hN.warm hW, hE.pass hS hFc hW hU, by rw [hU]; exact hPc, va_K.moved hW.alike hK, hDc⟩⟩ rfl rfl hl.1 rfl (lv_room (Nat.le_of_ble_eq_true rfl)) dX11_tornBy_132 ⟨Nat.le_of_ble_eq_true rfl, Nat.le_of_ble_eq_true rfl⟩) (fun r1231922 u H locs hw hP hS => ?_)
              obtain ⟨k1231923, k1231924⟩ := hw
              obtain rfl : r475 = r1231922 := k476.trans k1231923.symm
              refine lv_icmp_ge (tgt := 231) hx hb dX11_tornBy_135 (by decide) (fun c1231925 => ?_) (fun c1231925 => ?_)
              · skip
                have k1231926 : Rg y1231919 1 10 := rg_e2 (leI c1231925) k1225076 hy1231919 (by decide)
                obtain ⟨x1231927, ex1231927⟩ : ∃ y : Int32, y = y1224922 + 1 := ⟨_, rfl⟩
                refine lv_iinc (v := x1231927) (lv' := [(5, .int x1231927), (6, .int y1231919), (4, .int y1108923), (0, .ref h), (1, .int a1), (2, .int b1), (3, .int vc)]) hx hb dX11_tornBy_231 hl (k := 1) rfl (by rw [ex1231927]; rfl) (by decide) rfl (fun ls hl => ?_)
                have k1231928 : Rg x1231927 1 10 := rg_add ex1231927 k1225075 (rg_lit (n := 1) (by decide)) (by decide)
                refine lv_goto (tgt := 117) hx hb dX11_tornBy_234 (by decide) ?_
                exact ih1224924 (x1231927, g1231920) _ _ _ (by show (10 - (x1231927).toInt).toNat < (10 - (y1224922).toInt).toNat; exact mu_up ex1231927 k1225075 k1231928 (by decide)) ⟨(rg_w k1231928 (by decide)), hP.sub (ws' := [(h, oX11 th aw ai ab ac hi re aP ta po en be de fa a5 sp av an ak ne aW aC ag aT aN aF), (aw, .inl (cI, 2179, .inl fw)), (aT, .inl (cJ, 550, .inr (.inl g1108924))), (aN, .inl (cJ, 550, .inr (.inl g1231920)))]) [0, 1, 2, 3] rfl, hD.sub (ws' := [(h, oX11 th aw ai ab ac hi re aP ta po en be de fa a5 sp av an ak ne aW aC ag aT aN aF), (aw, .inl (cI, 2179, .inl fw)), (aT, .inl (cJ, 550, .inr (.inl g1108924))), (aN, .inl (cJ, 550, .inr (.inl g1231920)))]) [0, 1, 2, 3] (by decide) rfl, hS, lv_sub (l' := [(5, .int x1231927), (4, .int y1108923), (0, .ref h), (1, .int a1), (2, .int b1), (3, .int vc)]) hl [0, 2, 3, 4, 5, 6] rfl⟩
              · skip
                have k1231929 : Rg y1231919 0 9 := rg_l1 (nleI c1231925) hy1231919 k1225076 (by decide)
                refine lv_iload hx hb dX11_tornBy_138 (lv_at hl 1 rfl) ?_
                refine lv_iload hx hb dX11_tornBy_140 (lv_at hl 0 rfl) ?_
                refine k_join (hd := 225) (cells2 := 0) (slots2 := 0) (fun (g1232350 : (Nat → Int64)) => []) (fun (g1232350 : (Nat → Int64)) (H : Heap) (locs : List Loc) (ls : Array Slot) => va_P D vwCl [(h, oX11 th aw ai ab ac hi re aP ta po en be de fa a5 sp av an ak ne aW aC ag aT aN aF), (aw, .inl (cI, 2179, .inl fw)), (aT, .inl (cJ, 550, .inr (.inl g1108924))), (aN, .inl (cJ, 550, .inr (.inl g1232350)))] H ∧ va_D A [(h, oX11 th aw ai ab ac hi re aP ta po en be de fa a5 sp av an ak ne aW aC ag aT aN aF), (aw, .inl (cI, 2179, .inl fw)), (aT, .inl (cJ, 550, .inr (.inl g1108924))), (aN, .inl (cJ, 550, .inr (.inl g1232350)))] ∧ va_S A s.heap H locs ∧ lv_has ls 9 [(6, .int y1231919), (5, .int y1224922), (4, .int y1108923), (0, .ref h), (1, .int a1), (2, .int b1), (3, .int vc)]) (fun u H locs ls hI => ?_) (fun hJ225 => ?_)
                · skip
                  clear hP hD hS hl
                  obtain ⟨g1232350, rfl⟩ : ∃ z, z = u := ⟨_, rfl⟩
                  obtain ⟨hP, hD, hS, hl⟩ := hI
                  have hP : va_P D vwCl [(h, oX11 th aw ai ab ac hi re aP ta po en be de fa a5 sp av an ak ne aW aC ag aT aN aF), (aw, .inl (cI, 2179, .inl fw)), (aT, .inl (cJ, 550, .inr (.inl g1108924))), (aN, .inl (cJ, 550, .inr (.inl g1232350)))] H := hP
                  have hD : va_D A [(h, oX11 th aw ai ab ac hi re aP ta po en be de fa a5 sp av an ak ne aW aC ag aT aN aF), (aw, .inl (cI, 2179, .inl fw)), (aT, .inl (cJ, 550, .inr (.inl g1108924))), (aN, .inl (cJ, 550, .inr (.inl g1232350)))] := hD
                  have hl : lv_has ls 9 [(6, .int y1231919), (5, .int y1224922), (4, .int y1108923), (0, .ref h), (1, .int a1), (2, .int b1), (3, .int vc)] := hl
                  obtain ⟨x1232351, ex1232351⟩ : ∃ y : Int32, y = y1231919 + 1 := ⟨_, rfl⟩
                  refine lv_iinc (v := x1232351) (lv' := [(6, .int x1232351), (5, .int y1224922), (4, .int y1108923), (0, .ref h), (1, .int a1), (2, .int b1), (3, .int vc)]) hx hb dX11_tornBy_225 hl (k := 0) rfl (by rw [ex1232351]; rfl) (by decide) rfl (fun ls hl => ?_)
                  have k1232352 : Rg x1232351 1 10 := rg_add ex1232351 k1231929 (rg_lit (n := 1) (by decide)) (by decide)
                  refine lv_goto (tgt := 129) hx hb dX11_tornBy_228 (by decide) ?_
                  exact ih1231921 (x1232351, g1232350) _ _ _ (by show (10 - (x1232351).toInt).toNat < (10 - (y1231919).toInt).toNat; exact mu_up ex1232351 k1231929 k1232352 (by decide)) ⟨(rg_w k1232352 (by decide)), hP.sub (ws' := [(h, oX11 th aw ai ab ac hi re aP ta po en be de fa a5 sp av an ak ne aW aC ag aT aN aF), (aw, .inl (cI, 2179, .inl fw)), (aT, .inl (cJ, 550, .inr (.inl g1108924))), (aN, .inl (cJ, 550, .inr (.inl g1232350)))]) [0, 1, 2, 3] rfl, hD.sub (ws' := [(h, oX11 th aw ai ab ac hi re aP ta po en be de fa a5 sp av an ak ne aW aC ag aT aN aF), (aw, .inl (cI, 2179, .inl fw)), (aT, .inl (cJ, 550, .inr (.inl g1108924))), (aN, .inl (cJ, 550, .inr (.inl g1232350)))]) [0, 1, 2, 3] (by decide) rfl, hS, lv_sub (l' := [(6, .int x1232351), (5, .int y1224922), (4, .int y1108923), (0, .ref h), (1, .int a1), (2, .int b1), (3, .int vc)]) hl [0, 1, 2, 3, 4, 5, 6] rfl⟩
                refine lv_icmp_eq (tgt := 225) hx hb dX11_tornBy_142 (by decide) (fun c1232353 => ?_) (fun c1232353 => ?_)
                · skip
                  exact hJ225 (g1231920) _ _ _ ⟨hP.sub (ws' := [(h, oX11 th aw ai ab ac hi re aP ta po en be de fa a5 sp av an ak ne aW aC ag aT aN aF), (aw, .inl (cI, 2179, .inl fw)), (aT, .inl (cJ, 550, .inr (.inl g1108924))), (aN, .inl (cJ, 550, .inr (.inl g1231920)))]) [0, 1, 2, 3] rfl, hD.sub (ws' := [(h, oX11 th aw ai ab ac hi re aP ta po en be de fa a5 sp av an ak ne aW aC ag aT aN aF), (aw, .inl (cI, 2179, .inl fw)), (aT, .inl (cJ, 550, .inr (.inl g1108924))), (aN, .inl (cJ, 550, .inr (.inl g1231920)))]) [0, 1, 2, 3] (by decide) rfl, hS, lv_sub (l' := [(6, .int y1231919), (5, .int y1224922), (4, .int y1108923), (0, .ref h), (1, .int a1), (2, .int b1), (3, .int vc)]) hl [0, 1, 2, 3, 4, 5, 6] rfl⟩
                · skip
                  refine lv_iload hx hb dX11_tornBy_145 (lv_at hl 0 rfl) ?_
                  refine lv_iload_n hx hb dX11_tornBy_147 rfl (lv_at hl 6 rfl) ?_
                  refine lv_icmp_eq (tgt := 225) hx hb dX11_tornBy_148 (by decide) (fun c1232354 => ?_) (fun c1232354 => ?_)
                  · skip
                    have k1232355 : Rg vc 0 9 := rg_q2 (eqI c1232354) k1231929 (rg_any vc) (by decide)
                    exact hJ225 (g1231920) _ _ _ ⟨hP.sub (ws' := [(h, oX11 th aw ai ab ac hi re aP ta po en be de fa a5 sp av an ak ne aW aC ag aT aN aF), (aw, .inl (cI, 2179, .inl fw)), (aT, .inl (cJ, 550, .inr (.inl g1108924))), (aN, .inl (cJ, 550, .inr (.inl g1231920)))]) [0, 1, 2, 3] rfl, hD.sub (ws' := [(h, oX11 th aw ai ab ac hi re aP ta po en be de fa a5 sp av an ak ne aW aC ag aT aN aF), (aw, .inl (cI, 2179, .inl fw)), (aT, .inl (cJ, 550, .inr (.inl g1108924))), (aN, .inl (cJ, 550, .inr (.inl g1231920)))]) [0, 1, 2, 3] (by decide) rfl, hS, lv_sub (l' := [(6, .int y1231919), (5, .int y1224922), (4, .int y1108923), (0, .ref h), (1, .int a1), (2, .int b1), (3, .int vc)]) hl [0, 1, 2, 3, 4, 5, 6] rfl⟩
                  · skip
                    refine lv_aload_n hx hb dX11_tornBy_151 rfl (lv_at hl 3 rfl) ?_
                    refine lv_iload hx hb dX11_tornBy_152 (lv_at hl 1 rfl) ?_
                    refine lv_iload hx hb dX11_tornBy_154 (lv_at hl 0 rfl) ?_
                    refine kpurei (wc := [(h, oX11 th aw ai ab ac hi re aP ta po en be de fa a5 sp av an ak ne aW aC ag aT aN aF), (aw, .inl (cI, 2179, .inl fw))]) hP hD hS hA [0, 1] rfl (by decide) (fun hPc hDc hFc => va_runV (As := [.int y1224922, .int y1231919]) (rest := []) ⟨hx, hb, hml, hown, hts⟩ (r_isNeighbour l D cI cJ cB cC h th aw ai ab ac hi re aP ta po en be de fa a5 sp av an ak ne aW aC ag aT aN aF fw y1224922 y1231919 H.size k1225075 k1231929 H_fw_W) (cwV 2 hts gX11_tornBy_X11_isNeighbour rfl rfl rfl ⟨rfl, hdX11_isNeighbour⟩ ⟨Nat.le_of_ble_eq_true rfl, Nat.le_of_ble_eq_true rfl⟩) ⟨kBlind, va_recv hK hPc (ci := 10) (q0 := 0) rfl rfl, fun U hU hW => ⟨rfl, by rw [hU], hN.warm hW, hE.pass hS hFc hW hU, by rw [hU]; exact hPc, va_K.moved hW.alike hK, hDc⟩⟩ rfl rfl hl.1 rfl (lv_room (Nat.le_of_ble_eq_true rfl)) dX11_tornBy_156 ⟨Nat.le_of_ble_eq_true rfl, Nat.le_of_ble_eq_true rfl⟩) (fun r1232356 u H locs hw hP hS => ?_)
                    rcases hw with rfl | rfl
                    · skip
                      refine lv_if_eq (tgt := 165) hx hb dX11_tornBy_159 (by decide) (fun _ => ?_) (fun c1232358 => absurd (by decide) c1232358)
                      refine lv_aload_n hx hb dX11_tornBy_165 rfl (lv_at hl 3 rfl) ?_
                      refine lv_iload hx hb dX11_tornBy_166 (lv_at hl 0 rfl) ?_
                      refine lv_iconst (v := 2) hx hb dX11_tornBy_168 (by decide) ?_
                      refine kpurei (wc := [(h, oX11 th aw ai ab ac hi re aP ta po en be de fa a5 sp av an ak ne aW aC ag aT aN aF), (aw, .inl (cI, 2179, .inl fw))]) hP hD hS hA [0, 1] rfl (by decide) (fun hPc hDc hFc => va_runV (As := [.int y1231919, .int 2]) (rest := []) ⟨hx, hb, hml, hown, hts⟩ (r_ofMan2 l D cI cJ cB cC h th aw ai ab ac hi re aP ta po en be de fa a5 sp av an ak ne aW aC ag aT aN aF fw y1231919 H.size k1231929 H_fw_W) (cwV 2 hts gX11_tornBy_X11_ofMan rfl rfl rfl ⟨rfl, hdX11_ofMan⟩ ⟨Nat.le_of_ble_eq_true rfl, Nat.le_of_ble_eq_true rfl⟩) ⟨kBlind, va_recv hK hPc (ci := 10) (q0 := 0) rfl rfl, fun U hU hW => ⟨rfl, by rw [hU], hN.warm hW, hE.pass hS hFc hW hU, by rw [hU]; exact hPc, va_K.moved hW.alike hK, hDc⟩⟩ rfl rfl hl.1 rfl (lv_room (Nat.le_of_ble_eq_true rfl)) dX11_tornBy_169 ⟨Nat.le_of_ble_eq_true rfl, Nat.le_of_ble_eq_true rfl⟩) (fun r1232359 u H locs hw hP hS => ?_)
                      obtain ⟨k1232360, k1232361⟩ := hw
                      refine lv_istore (lv' := [(7, .int r1232359), (6, .int y1231919), (5, .int y1224922), (4, .int y1108923), (0, .ref h), (1, .int a1), (2, .int b1), (3, .int vc)]) hx hb dX11_tornBy_172 hl (by decide) rfl (fun ls hl => ?_)
                      refine lv_iconst (v := 0) hx hb dX11_tornBy_174 (by decide) ?_
                      refine lv_istore (lv' := [(8, .int 0), (7, .int r1232359), (6, .int y1231919), (5, .int y1224922), (4, .int y1108923), (0, .ref h), (1, .int a1), (2, .int b1), (3, .int vc)]) hx hb dX11_tornBy_175 hl (by decide) rfl (fun ls hl => ?_)
                      refine k_loop (hd := 177) (fun (u : Int32 × (Nat → Int64)) => match u with | (y1232746, g1232747) => (55 - (y1232746).toInt).toNat) (fun (u : Int32 × (Nat → Int64)) (H : Heap) (locs : List Loc) (ls : Array Slot) => match u with | (y1232746, g1232747) => Rg y1232746 0 55 ∧ va_P D vwCl [(h, oX11 th aw ai ab ac hi re aP ta po en be de fa a5 sp av an ak ne aW aC ag aT aN aF), (aw, .inl (cI, 2179, .inl fw)), (aT, .inl (cJ, 550, .inr (.inl g1108924))), (aN, .inl (cJ, 550, .inr (.inl g1232747)))] H ∧ va_D A [(h, oX11 th aw ai ab ac hi re aP ta po en be de fa a5 sp av an ak ne aW aC ag aT aN aF), (aw, .inl (cI, 2179, .inl fw)), (aT, .inl (cJ, 550, .inr (.inl g1108924))), (aN, .inl (cJ, 550, .inr (.inl g1232747)))] ∧ va_S A s.heap H locs ∧ lv_has ls 9 [(8, .int y1232746), (7, .int r1232359), (6, .int y1231919), (5, .int y1224922), (4, .int y1108923), (0, .ref h), (1, .int a1), (2, .int b1), (3, .int vc)]) ((0 : Int32), g1231920) ⟨(rg_w (rg_lit (n := 0) (by decide)) (by decide)), hP.sub (ws' := [(h, oX11 th aw ai ab ac hi re aP ta po en be de fa a5 sp av an ak ne aW aC ag aT aN aF), (aw, .inl (cI, 2179, .inl fw)), (aT, .inl (cJ, 550, .inr (.inl g1108924))), (aN, .inl (cJ, 550, .inr (.inl g1231920)))]) [0, 1, 2, 3] rfl, hD.sub (ws' := [(h, oX11 th aw ai ab ac hi re aP ta po en be de fa a5 sp av an ak ne aW aC ag aT aN aF), (aw, .inl (cI, 2179, .inl fw)), (aT, .inl (cJ, 550, .inr (.inl g1108924))), (aN, .inl (cJ, 550, .inr (.inl g1231920)))]) [0, 1, 2, 3] (by decide) rfl, hS, lv_sub (l' := [(8, .int 0), (7, .int r1232359), (6, .int y1231919), (5, .int y1224922), (4, .int y1108923), (0, .ref h), (1, .int a1), (2, .int b1), (3, .int vc)]) hl [0, 1, 2, 3, 4, 5, 6, 7, 8] rfl⟩ (fun u H locs ls hI ih1232748 => ?_)
                      clear hP hD hS hl
                      obtain ⟨y1232746, g1232747⟩ := u
                      obtain ⟨hy1232746, hP, hD, hS, hl⟩ := hI
                      have hP : va_P D vwCl [(h, oX11 th aw ai ab ac hi re aP ta po en be de fa a5 sp av an ak ne aW aC ag aT aN aF), (aw, .inl (cI, 2179, .inl fw)), (aT, .inl (cJ, 550, .inr (.inl g1108924))), (aN, .inl (cJ, 550, .inr (.inl g1232747)))] H := hP
                      have hD : va_D A [(h, oX11 th aw ai ab ac hi re aP ta po en be de fa a5 sp av an ak ne aW aC ag aT aN aF), (aw, .inl (cI, 2179, .inl fw)), (aT, .inl (cJ, 550, .inr (.inl g1108924))), (aN, .inl (cJ, 550, .inr (.inl g1232747)))] := hD
                      have hl : lv_has ls 9 [(8, .int y1232746), (7, .int r1232359), (6, .int y1231919), (5, .int y1224922), (4, .int y1108923), (0, .ref h), (1, .int a1), (2, .int b1), (3, .int vc)] := hl
                      refine lv_iload hx hb dX11_tornBy_177 (lv_at hl 0 rfl) ?_
                      refine lv_iload hx hb dX11_tornBy_179 (lv_at hl 1 rfl) ?_
                      refine lv_iadd hx hb dX11_tornBy_181 ?_
                      refine lv_topi (fun x1232749 ex1232749 => ?_)
                      have tx1232749 : x1232749.toInt = y1232746.toInt + r1232359.toInt := ti_add ex1232749 hy1232746 k1232361 (by decide) rfl rfl
                      have k1232750 : Rg x1232749 0 64 := rg_add ex1232749 hy1232746 k1232361 (by decide)
                      refine lv_bipush (v := 54) hx hb dX11_tornBy_182 (by decide) ?_
                      refine lv_icmp_gt (tgt := 225) hx hb dX11_tornBy_184 (by decide) (fun c1232751 => ?_) (fun c1232751 => ?_)
                      · skip
                        have k1232752 : Rg x1232749 55 64 := rg_l2 (ltI c1232751) (rg_lit (n := 54) (by decide)) k1232750 (by decide)
                        have k1232753 : Rg y1232746 46 55 := rg_backs ex1232749 hy1232746 k1232361 k1232752 (by decide)
                        exact hJ225 (g1232747) _ _ _ ⟨hP.sub (ws' := [(h, oX11 th aw ai ab ac hi re aP ta po en be de fa a5 sp av an ak ne aW aC ag aT aN aF), (aw, .inl (cI, 2179, .inl fw)), (aT, .inl (cJ, 550, .inr (.inl g1108924))), (aN, .inl (cJ, 550, .inr (.inl g1232747)))]) [0, 1, 2, 3] rfl, hD.sub (ws' := [(h, oX11 th aw ai ab ac hi re aP ta po en be de fa a5 sp av an ak ne aW aC ag aT aN aF), (aw, .inl (cI, 2179, .inl fw)), (aT, .inl (cJ, 550, .inr (.inl g1108924))), (aN, .inl (cJ, 550, .inr (.inl g1232747)))]) [0, 1, 2, 3] (by decide) rfl, hS, lv_sub (l' := [(6, .int y1231919), (5, .int y1224922), (4, .int y1108923), (0, .ref h), (1, .int a1), (2, .int b1), (3, .int vc)]) hl [2, 3, 4, 5, 6, 7, 8] rfl⟩
                      · skip
                        have k1232754 : Rg x1232749 0 54 := rg_e1 (nltI c1232751) k1232750 (rg_lit (n := 54) (by decide)) (by decide)
                        have k1232755 : Rg y1232746 0 54 := rg_backs ex1232749 hy1232746 k1232361 k1232754 (by decide)
                        refine lv_aload_n hx hb dX11_tornBy_187 rfl (lv_at hl 5 rfl) ?_
                        refine va_get (D := D) (ci := 10) (v := .ref aN) (C := RX11) (T := TX11) (N := 26) hx hb hts iG_X11 hown hK hP 0 rfl rfl 24 (by decide) (hts _ w5_18) (fun _ h9 => h9) rfl dX11_tornBy_188 ?_
                        refine lv_bipush (v := 55) hx hb dX11_tornBy_191 (by decide) ?_
                        refine lv_iload hx hb dX11_tornBy_193 (lv_at hl 2 rfl) ?_
                        refine lv_imul hx hb dX11_tornBy_195 ?_
                        refine lv_topi (fun x1232756 ex1232756 => ?_)
                        have tx1232756 : x1232756.toInt = 55 * y1231919.toInt := ti_mul ex1232756 (rg_lit (n := 55) (by decide)) k1231929 (by decide) (by decide) rfl
                        have k1232757 : Rg x1232756 0 495 := rg_mul ex1232756 (rg_lit (n := 55) (by decide)) k1231929 (by decide)
                        refine lv_iload hx hb dX11_tornBy_196 (lv_at hl 0 rfl) ?_
                        refine lv_iadd hx hb dX11_tornBy_198 ?_
                        refine lv_topi (fun x1232758 ex1232758 => ?_)
                        have tx1232758 : x1232758.toInt = x1232756.toInt + y1232746.toInt := ti_add ex1232758 k1232757 k1232755 (by decide) rfl rfl
                        have k1232759 : Rg x1232758 0 549 := rg_add ex1232758 k1232757 k1232755 (by decide)
                        refine lv_iload hx hb dX11_tornBy_199 (lv_at hl 1 rfl) ?_
                        refine lv_iadd hx hb dX11_tornBy_201 ?_
                        refine lv_topi (fun x1232760 ex1232760 => ?_)
                        have tx1232760 : x1232760.toInt = x1232758.toInt + r1232359.toInt := ti_add ex1232760 k1232759 k1232361 (by decide) rfl rfl
                        have k1232761 : Rg x1232760 0 558 := rg_add ex1232760 k1232759 k1232361 (by decide)
                        have k1232762 : Rg x1232760 0 549 := (by have q1 := k1231929; have q2 := k1232755; have q3 := k1232361; have q4 := k1232754; unfold Rg at *; exact ⟨by omega, by omega⟩)
                        refine lv_dup2_11 hx hb dX11_tornBy_202 rfl rfl ?_
                        refine va_lald hx hb hK hP 3 1 rfl rfl (rg_in k1232762 (by decide)) dX11_tornBy_203 ?_
                        refine lv_topl (fun x1232763 ex1232763 => ?_)
                        clear ex1232763
                        refine lv_aload_n hx hb dX11_tornBy_204 rfl (lv_at hl 5 rfl) ?_
                        refine va_get (D := D) (ci := 10) (v := .ref aT) (C := RX11) (T := TX11) (N := 26) hx hb hts iG_X11 hown hK hP 0 rfl rfl 23 (by decide) (hts _ w5_17) (fun _ h9 => h9) rfl dX11_tornBy_205 ?_
                        refine lv_bipush (v := 55) hx hb dX11_tornBy_208 (by decide) ?_
                        refine lv_iload hx hb dX11_tornBy_210 (lv_at hl 3 rfl) ?_
                        refine lv_imul hx hb dX11_tornBy_212 ?_
                        refine lv_topi (fun x1232764 ex1232764 => ?_)
                        have tx1232764 : x1232764.toInt = 55 * y1224922.toInt := ti_mul ex1232764 (rg_lit (n := 55) (by decide)) k1225075 (by decide) (by decide) rfl
                        have k1232765 : Rg x1232764 0 495 := rg_mul ex1232764 (rg_lit (n := 55) (by decide)) k1225075 (by decide)
                        refine lv_iload hx hb dX11_tornBy_213 (lv_at hl 0 rfl) ?_
                        refine lv_iadd hx hb dX11_tornBy_215 ?_
                        refine lv_topi (fun x1232766 ex1232766 => ?_)
                        have tx1232766 : x1232766.toInt = x1232764.toInt + y1232746.toInt := ti_add ex1232766 k1232765 k1232755 (by decide) rfl rfl
                        have k1232767 : Rg x1232766 0 549 := rg_add ex1232766 k1232765 k1232755 (by decide)
                        refine va_lald hx hb hK hP 2 1 rfl rfl (rg_in k1232767 (by decide)) dX11_tornBy_216 ?_
                        refine lv_topl (fun x1232768 ex1232768 => ?_)
                        clear ex1232768
                        refine lv_ladd hx hb dX11_tornBy_217 ?_
                        refine lv_topl (fun x1232769 ex1232769 => ?_)
                        clear ex1232769
                        refine va_last hx hb hK hP hD hS 3 1 rfl rfl (rg_in k1232762 (by decide)) dX11_tornBy_218 (fun H locs hP hD hS => ?_)
                        have hP : va_P D vwCl [(h, oX11 th aw ai ab ac hi re aP ta po en be de fa a5 sp av an ak ne aW aC ag aT aN aF), (aw, .inl (cI, 2179, .inl fw)), (aT, .inl (cJ, 550, .inr (.inl g1108924))), (aN, .inl (cJ, 550, .inr (.inl (vp_updL g1232747 x1232760.toNatClampNeg x1232769))))] H := hP
                        have hD : va_D A [(h, oX11 th aw ai ab ac hi re aP ta po en be de fa a5 sp av an ak ne aW aC ag aT aN aF), (aw, .inl (cI, 2179, .inl fw)), (aT, .inl (cJ, 550, .inr (.inl g1108924))), (aN, .inl (cJ, 550, .inr (.inl (vp_updL g1232747 x1232760.toNatClampNeg x1232769))))] := hD
                        generalize hge : (vp_updL g1232747 x1232760.toNatClampNeg x1232769) = g1232770 at hP hD
                        clear hge
                        obtain ⟨x1232771, ex1232771⟩ : ∃ y : Int32, y = y1232746 + 1 := ⟨_, rfl⟩
                        refine lv_iinc (v := x1232771) (lv' := [(8, .int x1232771), (7, .int r1232359), (6, .int y1231919), (5, .int y1224922), (4, .int y1108923), (0, .ref h), (1, .int a1), (2, .int b1), (3, .int vc)]) hx hb dX11_tornBy_219 hl (k := 0) rfl (by rw [ex1232771]; rfl) (by decide) rfl (fun ls hl => ?_)
                        have k1232772 : Rg x1232771 1 55 := rg_add ex1232771 k1232755 (rg_lit (n := 1) (by decide)) (by decide)
                        refine lv_goto (tgt := 177) hx hb dX11_tornBy_222 (by decide) ?_
                        exact ih1232748 (x1232771, g1232770) _ _ _ (by show (55 - (x1232771).toInt).toNat < (55 - (y1232746).toInt).toNat; exact mu_up ex1232771 k1232755 k1232772 (by decide)) ⟨(rg_w k1232772 (by decide)), hP.sub (ws' := [(h, oX11 th aw ai ab ac hi re aP ta po en be de fa a5 sp av an ak ne aW aC ag aT aN aF), (aw, .inl (cI, 2179, .inl fw)), (aT, .inl (cJ, 550, .inr (.inl g1108924))), (aN, .inl (cJ, 550, .inr (.inl g1232770)))]) [0, 1, 2, 3] rfl, hD.sub (ws' := [(h, oX11 th aw ai ab ac hi re aP ta po en be de fa a5 sp av an ak ne aW aC ag aT aN aF), (aw, .inl (cI, 2179, .inl fw)), (aT, .inl (cJ, 550, .inr (.inl g1108924))), (aN, .inl (cJ, 550, .inr (.inl g1232770)))]) [0, 1, 2, 3] (by decide) rfl, hS, lv_sub (l' := [(8, .int x1232771), (7, .int r1232359), (6, .int y1231919), (5, .int y1224922), (4, .int y1108923), (0, .ref h), (1, .int a1), (2, .int b1), (3, .int vc)]) hl [0, 1, 2, 3, 4, 5, 6, 7, 8] rfl⟩
                    · skip
                      refine lv_if_eq (tgt := 165) hx hb dX11_tornBy_159 (by decide) (fun c1232773 => absurd c1232773 (by decide)) (fun _ => ?_)
                      refine lv_goto (tgt := 225) hx hb dX11_tornBy_162 (by decide) ?_
                      exact hJ225 (g1231920) _ _ _ ⟨hP.sub (ws' := [(h, oX11 th aw ai ab ac hi re aP ta po en be de fa a5 sp av an ak ne aW aC ag aT aN aF), (aw, .inl (cI, 2179, .inl fw)), (aT, .inl (cJ, 550, .inr (.inl g1108924))), (aN, .inl (cJ, 550, .inr (.inl g1231920)))]) [0, 1, 2, 3] rfl, hD.sub (ws' := [(h, oX11 th aw ai ab ac hi re aP ta po en be de fa a5 sp av an ak ne aW aC ag aT aN aF), (aw, .inl (cI, 2179, .inl fw)), (aT, .inl (cJ, 550, .inr (.inl g1108924))), (aN, .inl (cJ, 550, .inr (.inl g1231920)))]) [0, 1, 2, 3] (by decide) rfl, hS, lv_sub (l' := [(6, .int y1231919), (5, .int y1224922), (4, .int y1108923), (0, .ref h), (1, .int a1), (2, .int b1), (3, .int vc)]) hl [0, 1, 2, 3, 4, 5, 6] rfl⟩
          · skip
            have k1232774 : Rg y1109315 0 549 := rg_l1 (nleI c1109318) hy1109315 (rg_lit (n := 550) (by decide)) (by decide)
            refine lv_aload_n hx hb dX11_tornBy_100 rfl (lv_at hl 2 rfl) ?_
            refine va_get (D := D) (ci := 10) (v := .ref aN) (C := RX11) (T := TX11) (N := 26) hx hb hts iG_X11 hown hK hP 0 rfl rfl 24 (by decide) (hts _ w5_18) (fun _ h9 => h9) rfl dX11_tornBy_101 ?_
            refine lv_iload hx hb dX11_tornBy_104 (lv_at hl 0 rfl) ?_
            refine lv_lconst (v := 0) hx hb dX11_tornBy_106 (by decide) ?_
            refine va_last hx hb hK hP hD hS 3 1 rfl rfl (rg_in k1232774 (by decide)) dX11_tornBy_107 (fun H locs hP hD hS => ?_)
            have hP : va_P D vwCl [(h, oX11 th aw ai ab ac hi re aP ta po en be de fa a5 sp av an ak ne aW aC ag aT aN aF), (aw, .inl (cI, 2179, .inl fw)), (aT, .inl (cJ, 550, .inr (.inl g1108924))), (aN, .inl (cJ, 550, .inr (.inl (vp_updL g1109316 y1109315.toNatClampNeg 0))))] H := hP
            have hD : va_D A [(h, oX11 th aw ai ab ac hi re aP ta po en be de fa a5 sp av an ak ne aW aC ag aT aN aF), (aw, .inl (cI, 2179, .inl fw)), (aT, .inl (cJ, 550, .inr (.inl g1108924))), (aN, .inl (cJ, 550, .inr (.inl (vp_updL g1109316 y1109315.toNatClampNeg 0))))] := hD
            generalize hge : (vp_updL g1109316 y1109315.toNatClampNeg 0) = g1232775 at hP hD
            clear hge
            obtain ⟨x1232776, ex1232776⟩ : ∃ y : Int32, y = y1109315 + 1 := ⟨_, rfl⟩
            refine lv_iinc (v := x1232776) (lv' := [(5, .int x1232776), (4, .int y1108923), (0, .ref h), (1, .int a1), (2, .int b1), (3, .int vc)]) hx hb dX11_tornBy_108 hl (k := 0) rfl (by rw [ex1232776]; rfl) (by decide) rfl (fun ls hl => ?_)
            have k1232777 : Rg x1232776 1 550 := rg_add ex1232776 k1232774 (rg_lit (n := 1) (by decide)) (by decide)
            refine lv_goto (tgt := 92) hx hb dX11_tornBy_111 (by decide) ?_
            exact ih1109317 (x1232776, g1232775) _ _ _ (by show (550 - (x1232776).toInt).toNat < (550 - (y1109315).toInt).toNat; exact mu_up ex1232776 k1232774 k1232777 (by decide)) ⟨(rg_w k1232777 (by decide)), hP.sub (ws' := [(h, oX11 th aw ai ab ac hi re aP ta po en be de fa a5 sp av an ak ne aW aC ag aT aN aF), (aw, .inl (cI, 2179, .inl fw)), (aT, .inl (cJ, 550, .inr (.inl g1108924))), (aN, .inl (cJ, 550, .inr (.inl g1232775)))]) [0, 1, 2, 3] rfl, hD.sub (ws' := [(h, oX11 th aw ai ab ac hi re aP ta po en be de fa a5 sp av an ak ne aW aC ag aT aN aF), (aw, .inl (cI, 2179, .inl fw)), (aT, .inl (cJ, 550, .inr (.inl g1108924))), (aN, .inl (cJ, 550, .inr (.inl g1232775)))]) [0, 1, 2, 3] (by decide) rfl, hS, lv_sub (l' := [(5, .int x1232776), (4, .int y1108923), (0, .ref h), (1, .int a1), (2, .int b1), (3, .int vc)]) hl [0, 1, 2, 3, 4, 5] rfl⟩
      · skip
        have k1232778 : Rg y472 0 9 := rg_l1 (nleI c478) hy472 k477 (by decide)
        have k1232779 : Rg r475 1 10 := rg_l2 (nleI c478) hy472 k477 (by decide)
        refine lv_aload_n hx hb dX11_tornBy_45 rfl (lv_at hl 1 rfl) ?_
        refine va_get (D := D) (ci := 10) (v := .ref aT) (C := RX11) (T := TX11) (N := 26) hx hb hts iG_X11 hown hK hP 0 rfl rfl 23 (by decide) (hts _ w5_17) (fun _ h9 => h9) rfl dX11_tornBy_46 ?_
        refine lv_bipush (v := 55) hx hb dX11_tornBy_49 (by decide) ?_
        refine lv_iload hx hb dX11_tornBy_51 (lv_at hl 0 rfl) ?_
        refine lv_imul hx hb dX11_tornBy_53 ?_
        refine lv_topi (fun x1232780 ex1232780 => ?_)
        have tx1232780 : x1232780.toInt = 55 * y472.toInt := ti_mul ex1232780 (rg_lit (n := 55) (by decide)) k1232778 (by decide) (by decide) rfl
        have k1232781 : Rg x1232780 0 495 := rg_mul ex1232780 (rg_lit (n := 55) (by decide)) k1232778 (by decide)
        refine lv_aload_n hx hb dX11_tornBy_54 rfl (lv_at hl 1 rfl) ?_
        refine lv_iload hx hb dX11_tornBy_55 (lv_at hl 0 rfl) ?_
        refine lv_iconst (v := 2) hx hb dX11_tornBy_57 (by decide) ?_
        refine kpurei (wc := [(h, oX11 th aw ai ab ac hi re aP ta po en be de fa a5 sp av an ak ne aW aC ag aT aN aF), (aw, .inl (cI, 2179, .inl fw))]) hP hD hS hA [0, 1] rfl (by decide) (fun hPc hDc hFc => va_runV (As := [.int y472, .int 2]) (rest := [.int x1232780, .ref aT]) ⟨hx, hb, hml, hown, hts⟩ (r_ofMan2 l D cI cJ cB cC h th aw ai ab ac hi re aP ta po en be de fa a5 sp av an ak ne aW aC ag aT aN aF fw y472 H.size k1232778 H_fw_W) (cwV 2 hts gX11_tornBy_X11_ofMan rfl rfl rfl ⟨rfl, hdX11_ofMan⟩ ⟨Nat.le_of_ble_eq_true rfl, Nat.le_of_ble_eq_true rfl⟩) ⟨kBlind, va_recv hK hPc (ci := 10) (q0 := 0) rfl rfl, fun U hU hW => ⟨rfl, by rw [hU], hN.warm hW, hE.pass hS hFc hW hU, by rw [hU]; exact hPc, va_K.moved hW.alike hK, hDc⟩⟩ rfl rfl hl.1 rfl (lv_room (Nat.le_of_ble_eq_true rfl)) dX11_tornBy_58 ⟨Nat.le_of_ble_eq_true rfl, Nat.le_of_ble_eq_true rfl⟩) (fun r1232782 u H locs hw hP hS => ?_)
        obtain ⟨k1232783, k1232784⟩ := hw
        refine lv_iadd hx hb dX11_tornBy_61 ?_
        refine lv_topi (fun x1232785 ex1232785 => ?_)
        have tx1232785 : x1232785.toInt = x1232780.toInt + r1232782.toInt := ti_add ex1232785 k1232781 k1232784 (by decide) rfl rfl
        have k1232786 : Rg x1232785 0 504 := rg_add ex1232785 k1232781 k1232784 (by decide)
        refine lv_iload hx hb dX11_tornBy_62 (lv_at hl 0 rfl) ?_
        refine lv_iload_n hx hb dX11_tornBy_64 rfl (lv_at hl 4 rfl) ?_
        refine k_join (hd := 73) (cells2 := 0) (slots2 := 0) (fun (u : Int64 × Int32) => match u with | (z1232791, z1232792) => [.long z1232791, .int z1232792, .ref aT]) (fun (u : Int64 × Int32) (H : Heap) (locs : List Loc) (ls : Array Slot) => match u with | (z1232791, z1232792) => Rg z1232792 0 504 ∧ va_P D vwCl [(h, oX11 th aw ai ab ac hi re aP ta po en be de fa a5 sp av an ak ne aW aC ag aT aN aF), (aw, .inl (cI, 2179, .inl fw)), (aT, .inl (cJ, 550, .inr (.inl g473))), (aN, .inl (cJ, 550, .inr (.inl fN)))] H ∧ va_D A [(h, oX11 th aw ai ab ac hi re aP ta po en be de fa a5 sp av an ak ne aW aC ag aT aN aF), (aw, .inl (cI, 2179, .inl fw)), (aT, .inl (cJ, 550, .inr (.inl g473))), (aN, .inl (cJ, 550, .inr (.inl fN)))] ∧ va_S A s.heap H locs ∧ lv_has ls 9 [(4, .int y472), (0, .ref h), (1, .int a1), (2, .int b1), (3, .int vc)]) (fun u H locs ls hI => ?_) (fun hJ73 => ?_)
        · skip
          clear hP hD hS hl
          obtain ⟨z1232791, z1232792⟩ := u
          obtain ⟨hz1232792, hP, hD, hS, hl⟩ := hI
          have hP : va_P D vwCl [(h, oX11 th aw ai ab ac hi re aP ta po en be de fa a5 sp av an ak ne aW aC ag aT aN aF), (aw, .inl (cI, 2179, .inl fw)), (aT, .inl (cJ, 550, .inr (.inl g473))), (aN, .inl (cJ, 550, .inr (.inl fN)))] H := hP
          have hD : va_D A [(h, oX11 th aw ai ab ac hi re aP ta po en be de fa a5 sp av an ak ne aW aC ag aT aN aF), (aw, .inl (cI, 2179, .inl fw)), (aT, .inl (cJ, 550, .inr (.inl g473))), (aN, .inl (cJ, 550, .inr (.inl fN)))] := hD
          have hl : lv_has ls 9 [(4, .int y472), (0, .ref h), (1, .int a1), (2, .int b1), (3, .int vc)] := hl
          show W _ _ _ _ _ _ _ _ _ _ _ _ _ _ _ (F0 m 73 ls [.long z1232791, .int z1232792, .ref aT])
          refine va_last hx hb hK hP hD hS 2 1 rfl rfl (rg_in hz1232792 (by decide)) dX11_tornBy_73 (fun H locs hP hD hS => ?_)
          have hP : va_P D vwCl [(h, oX11 th aw ai ab ac hi re aP ta po en be de fa a5 sp av an ak ne aW aC ag aT aN aF), (aw, .inl (cI, 2179, .inl fw)), (aT, .inl (cJ, 550, .inr (.inl (vp_updL g473 z1232792.toNatClampNeg z1232791)))), (aN, .inl (cJ, 550, .inr (.inl fN)))] H := hP
          have hD : va_D A [(h, oX11 th aw ai ab ac hi re aP ta po en be de fa a5 sp av an ak ne aW aC ag aT aN aF), (aw, .inl (cI, 2179, .inl fw)), (aT, .inl (cJ, 550, .inr (.inl (vp_updL g473 z1232792.toNatClampNeg z1232791)))), (aN, .inl (cJ, 550, .inr (.inl fN)))] := hD
          generalize hge : (vp_updL g473 z1232792.toNatClampNeg z1232791) = g1232793 at hP hD
          clear hge
          obtain ⟨x1232794, ex1232794⟩ : ∃ y : Int32, y = y472 + 1 := ⟨_, rfl⟩
          refine lv_iinc (v := x1232794) (lv' := [(4, .int x1232794), (0, .ref h), (1, .int a1), (2, .int b1), (3, .int vc)]) hx hb dX11_tornBy_74 hl (k := 0) rfl (by rw [ex1232794]; rfl) (by decide) rfl (fun ls hl => ?_)
          have k1232795 : Rg x1232794 1 10 := rg_add ex1232794 k1232778 (rg_lit (n := 1) (by decide)) (by decide)
          refine lv_goto (tgt := 36) hx hb dX11_tornBy_77 (by decide) ?_
          exact ih474 (x1232794, g1232793) _ _ _ (by show (10 - (x1232794).toInt).toNat < (10 - (y472).toInt).toNat; exact mu_up ex1232794 k1232778 k1232795 (by decide)) ⟨(rg_w k1232795 (by decide)), hP.sub (ws' := [(h, oX11 th aw ai ab ac hi re aP ta po en be de fa a5 sp av an ak ne aW aC ag aT aN aF), (aw, .inl (cI, 2179, .inl fw)), (aT, .inl (cJ, 550, .inr (.inl g1232793))), (aN, .inl (cJ, 550, .inr (.inl fN)))]) [0, 1, 2, 3] rfl, hD.sub (ws' := [(h, oX11 th aw ai ab ac hi re aP ta po en be de fa a5 sp av an ak ne aW aC ag aT aN aF), (aw, .inl (cI, 2179, .inl fw)), (aT, .inl (cJ, 550, .inr (.inl g1232793))), (aN, .inl (cJ, 550, .inr (.inl fN)))]) [0, 1, 2, 3] (by decide) rfl, hS, lv_sub (l' := [(4, .int x1232794), (0, .ref h), (1, .int a1), (2, .int b1), (3, .int vc)]) hl [0, 1, 2, 3, 4] rfl⟩
        refine lv_icmp_ne (tgt := 72) hx hb dX11_tornBy_65 (by decide) (fun c1232796 => ?_) (fun c1232796 => ?_)
        · skip
          refine lv_lconst (v := 1) hx hb dX11_tornBy_72 (by decide) ?_
          exact hJ73 ((1 : Int64), x1232785) _ _ _ ⟨k1232786, hP.sub (ws' := [(h, oX11 th aw ai ab ac hi re aP ta po en be de fa a5 sp av an ak ne aW aC ag aT aN aF), (aw, .inl (cI, 2179, .inl fw)), (aT, .inl (cJ, 550, .inr (.inl g473))), (aN, .inl (cJ, 550, .inr (.inl fN)))]) [0, 1, 2, 3] rfl, hD.sub (ws' := [(h, oX11 th aw ai ab ac hi re aP ta po en be de fa a5 sp av an ak ne aW aC ag aT aN aF), (aw, .inl (cI, 2179, .inl fw)), (aT, .inl (cJ, 550, .inr (.inl g473))), (aN, .inl (cJ, 550, .inr (.inl fN)))]) [0, 1, 2, 3] (by decide) rfl, hS, lv_sub (l' := [(4, .int y472), (0, .ref h), (1, .int a1), (2, .int b1), (3, .int vc)]) hl [0, 1, 2, 3, 4] rfl⟩
        · skip
          have k1232797 : Rg vc 0 9 := rg_q2 (eqI c1232796) k1232778 (rg_any vc) (by decide)
          refine lv_lconst (v := 0) hx hb dX11_tornBy_68 (by decide) ?_
          refine lv_goto (tgt := 73) hx hb dX11_tornBy_69 (by decide) ?_
          exact hJ73 ((0 : Int64), x1232785) _ _ _ ⟨k1232786, hP.sub (ws' := [(h, oX11 th aw ai ab ac hi re aP ta po en be de fa a5 sp av an ak ne aW aC ag aT aN aF), (aw, .inl (cI, 2179, .inl fw)), (aT, .inl (cJ, 550, .inr (.inl g473))), (aN, .inl (cJ, 550, .inr (.inl fN)))]) [0, 1, 2, 3] rfl, hD.sub (ws' := [(h, oX11 th aw ai ab ac hi re aP ta po en be de fa a5 sp av an ak ne aW aC ag aT aN aF), (aw, .inl (cI, 2179, .inl fw)), (aT, .inl (cJ, 550, .inr (.inl g473))), (aN, .inl (cJ, 550, .inr (.inl fN)))]) [0, 1, 2, 3] (by decide) rfl, hS, lv_sub (l' := [(4, .int y472), (0, .ref h), (1, .int a1), (2, .int b1), (3, .int vc)]) hl [0, 1, 2, 3, 4] rfl⟩
    · skip
      have k1232798 : Rg y121 0 549 := rg_l1 (nleI c124) hy121 (rg_lit (n := 550) (by decide)) (by decide)
      refine lv_aload_n hx hb dX11_tornBy_19 rfl (lv_at hl 1 rfl) ?_
      refine va_get (D := D) (ci := 10) (v := .ref aT) (C := RX11) (T := TX11) (N := 26) hx hb hts iG_X11 hown hK hP 0 rfl rfl 23 (by decide) (hts _ w5_17) (fun _ h9 => h9) rfl dX11_tornBy_20 ?_
      refine lv_iload hx hb dX11_tornBy_23 (lv_at hl 0 rfl) ?_
      refine lv_lconst (v := 0) hx hb dX11_tornBy_25 (by decide) ?_
      refine va_last hx hb hK hP hD hS 2 1 rfl rfl (rg_in k1232798 (by decide)) dX11_tornBy_26 (fun H locs hP hD hS => ?_)
      have hP : va_P D vwCl [(h, oX11 th aw ai ab ac hi re aP ta po en be de fa a5 sp av an ak ne aW aC ag aT aN aF), (aw, .inl (cI, 2179, .inl fw)), (aT, .inl (cJ, 550, .inr (.inl (vp_updL g122 y121.toNatClampNeg 0)))), (aN, .inl (cJ, 550, .inr (.inl fN)))] H := hP
      have hD : va_D A [(h, oX11 th aw ai ab ac hi re aP ta po en be de fa a5 sp av an ak ne aW aC ag aT aN aF), (aw, .inl (cI, 2179, .inl fw)), (aT, .inl (cJ, 550, .inr (.inl (vp_updL g122 y121.toNatClampNeg 0)))), (aN, .inl (cJ, 550, .inr (.inl fN)))] := hD
      generalize hge : (vp_updL g122 y121.toNatClampNeg 0) = g1232799 at hP hD
      clear hge
      obtain ⟨x1232800, ex1232800⟩ : ∃ y : Int32, y = y121 + 1 := ⟨_, rfl⟩
      refine lv_iinc (v := x1232800) (lv' := [(4, .int x1232800), (0, .ref h), (1, .int a1), (2, .int b1), (3, .int vc)]) hx hb dX11_tornBy_27 hl (k := 0) rfl (by rw [ex1232800]; rfl) (by decide) rfl (fun ls hl => ?_)
      have k1232801 : Rg x1232800 1 550 := rg_add ex1232800 k1232798 (rg_lit (n := 1) (by decide)) (by decide)
      refine lv_goto (tgt := 11) hx hb dX11_tornBy_30 (by decide) ?_
      exact ih123 (x1232800, g1232799) _ _ _ (by show (550 - (x1232800).toInt).toNat < (550 - (y121).toInt).toNat; exact mu_up ex1232800 k1232798 k1232801 (by decide)) ⟨(rg_w k1232801 (by decide)), hP.sub (ws' := [(h, oX11 th aw ai ab ac hi re aP ta po en be de fa a5 sp av an ak ne aW aC ag aT aN aF), (aw, .inl (cI, 2179, .inl fw)), (aT, .inl (cJ, 550, .inr (.inl g1232799))), (aN, .inl (cJ, 550, .inr (.inl fN)))]) [0, 1, 2, 3] rfl, hD.sub (ws' := [(h, oX11 th aw ai ab ac hi re aP ta po en be de fa a5 sp av an ak ne aW aC ag aT aN aF), (aw, .inl (cI, 2179, .inl fw)), (aT, .inl (cJ, 550, .inr (.inl g1232799))), (aN, .inl (cJ, 550, .inr (.inl fN)))]) [0, 1, 2, 3] (by decide) rfl, hS, lv_sub (l' := [(4, .int x1232800), (0, .ref h), (1, .int a1), (2, .int b1), (3, .int vc)]) hl [0, 1, 2, 3, 4] rfl⟩
  · skip
    have k1232802 : Rg a1 55 2147483647 := rg_l2 (nleI c1) (rg_lit (n := 54) (by decide)) H_a1 (by decide)
    refine lv_lconst (v := 0) hx hb dX11_tornBy_6 (by decide) ?_
    have hP9 := hP.sub (ws' := [(h, oX11 th aw ai ab ac hi re aP ta po en be de fa a5 sp av an ak ne aW aC ag aT aN aF), (aw, .inl (cI, 2179, .inl fw)), (aT, .inl (cJ, 550, .inr (.inl fT))), (aN, .inl (cJ, 550, .inr (.inl fN)))]) [0, 1, 2, 3] rfl
    have hD9 := hD.sub (ws' := [(h, oX11 th aw ai ab ac hi re aP ta po en be de fa a5 sp av an ak ne aW aC ag aT aN aF), (aw, .inl (cI, 2179, .inl fw)), (aT, .inl (cJ, 550, .inr (.inl fT))), (aN, .inl (cJ, 550, .inr (.inl fN)))]) [0, 1, 2, 3] (by decide) rfl
    exact W.lret (v := 0) hx hb hr (fun t ht hW => ⟨⟨0, (fT, fN), rfl, trivial, by rw [ht]; exact hP9, va_K.moved hW.alike hK, hD9⟩, hS.F ht⟩) hS.2.2 dX11_tornBy_7

def kwX11_tore : List Cond := .code yX11_tore cX11_tore 11 (some .long) :: kG
theorem hdX11_tore : yX11_tore.cls ≠ "java/lang/invoke/MethodHandle" ∧ yX11_tore.cls ≠ "java/lang/invoke/VarHandle" ∧ (parseMethodDescriptor yX11_tore.desc).map (fun d => d.parameters.length) = some 3 := by decide +kernel
theorem gX11_tore_X11_in : GoodIn kG (va_wsS RX11 75 yX11_in kwX11_in) := gK w27_8 (gK w27_9 (gK w0_5 (gK w27_10 gGG)))
theorem gX11_tore_X11_men : GoodIn kG (wsV RX11 71 RX11 yX11_men kwX11_men) := gK w19_17 (gK w19_18 (gK w19_19 (gK w0_5 (gK w19_20 gGG))))
theorem gX11_tore_X11_throwsIf : GoodIn kG (wsV RX11 258 RX11 yX11_throwsIf kwX11_throwsIf) := gK w23_6 (gK w23_7 (gK w23_8 (gK w0_5 (gK w23_9 gGG))))
theorem gX11_tore_X11_tornBy : GoodIn kG (wsV RX11 349 RX11 yX11_tornBy kwX11_tornBy) := gK w47_19 (gK w47_20 (gK w47_21 (gK w0_5 (gK w47_22 gGG))))
theorem dX11_tore_0 : decode cX11_tore 0 = .ok (.aload_n 0, 1) := by decide +kernel
theorem dX11_tore_1 : decode cX11_tore 1 = .ok (.iconst 0, 1) := by decide +kernel
theorem dX11_tore_2 : decode cX11_tore 2 = .ok (.putfield 3, 3) := by decide +kernel
theorem dX11_tore_5 : decode cX11_tore 5 = .ok (.aload_n 0, 1) := by decide +kernel
theorem dX11_tore_6 : decode cX11_tore 6 = .ok (.iload_n 3, 1) := by decide +kernel
theorem dX11_tore_7 : decode cX11_tore 7 = .ok (.iconst 0, 1) := by decide +kernel
theorem dX11_tore_8 : decode cX11_tore 8 = .ok (.iconst 2, 1) := by decide +kernel
theorem dX11_tore_9 : decode cX11_tore 9 = .ok (.invokestatic 75, 3) := by decide +kernel
theorem dX11_tore_12 : decode cX11_tore 12 = .ok (.ifCond .ne 7, 3) := by decide +kernel
theorem dX11_tore_15 : decode cX11_tore 15 = .ok (.iconst 1, 1) := by decide +kernel
theorem dX11_tore_16 : decode cX11_tore 16 = .ok (.goto 4, 3) := by decide +kernel
theorem dX11_tore_19 : decode cX11_tore 19 = .ok (.iconst 0, 1) := by decide +kernel
theorem dX11_tore_20 : decode cX11_tore 20 = .ok (.iconst 1, 1) := by decide +kernel
theorem dX11_tore_21 : decode cX11_tore 21 = .ok (.invokevirtual 258, 3) := by decide +kernel
theorem dX11_tore_24 : decode cX11_tore 24 = .ok (.ifCond .ne 30, 3) := by decide +kernel
theorem dX11_tore_27 : decode cX11_tore 27 = .ok (.aload_n 0, 1) := by decide +kernel
theorem dX11_tore_28 : decode cX11_tore 28 = .ok (.iload_n 1, 1) := by decide +kernel
theorem dX11_tore_29 : decode cX11_tore 29 = .ok (.ifCond .lt 13, 3) := by decide +kernel
theorem dX11_tore_32 : decode cX11_tore 32 = .ok (.iload_n 2, 1) := by decide +kernel
theorem dX11_tore_33 : decode cX11_tore 33 = .ok (.iconst 1, 1) := by decide +kernel
theorem dX11_tore_34 : decode cX11_tore 34 = .ok (.bipush 6, 2) := by decide +kernel
theorem dX11_tore_36 : decode cX11_tore 36 = .ok (.invokestatic 75, 3) := by decide +kernel
theorem dX11_tore_39 : decode cX11_tore 39 = .ok (.ifCond .ne 7, 3) := by decide +kernel
theorem dX11_tore_42 : decode cX11_tore 42 = .ok (.iconst 1, 1) := by decide +kernel
theorem dX11_tore_43 : decode cX11_tore 43 = .ok (.goto 4, 3) := by decide +kernel
theorem dX11_tore_46 : decode cX11_tore 46 = .ok (.iconst 0, 1) := by decide +kernel
theorem dX11_tore_47 : decode cX11_tore 47 = .ok (.iconst 2, 1) := by decide +kernel
theorem dX11_tore_48 : decode cX11_tore 48 = .ok (.invokevirtual 258, 3) := by decide +kernel
theorem dX11_tore_51 : decode cX11_tore 51 = .ok (.ifCond .eq 5, 3) := by decide +kernel
theorem dX11_tore_54 : decode cX11_tore 54 = .ok (.lconst 0, 1) := by decide +kernel
theorem dX11_tore_55 : decode cX11_tore 55 = .ok (.lreturn, 1) := by decide +kernel
theorem dX11_tore_56 : decode cX11_tore 56 = .ok (.aload_n 0, 1) := by decide +kernel
theorem dX11_tore_57 : decode cX11_tore 57 = .ok (.iload_n 1, 1) := by decide +kernel
theorem dX11_tore_58 : decode cX11_tore 58 = .ok (.iload_n 2, 1) := by decide +kernel
theorem dX11_tore_59 : decode cX11_tore 59 = .ok (.iconst (-1), 1) := by decide +kernel
theorem dX11_tore_60 : decode cX11_tore 60 = .ok (.invokevirtual 349, 3) := by decide +kernel
theorem dX11_tore_63 : decode cX11_tore 63 = .ok (.lstore 4, 2) := by decide +kernel
theorem dX11_tore_65 : decode cX11_tore 65 = .ok (.iload_n 3, 1) := by decide +kernel
theorem dX11_tore_66 : decode cX11_tore 66 = .ok (.ifCond .ne 6, 3) := by decide +kernel
theorem dX11_tore_69 : decode cX11_tore 69 = .ok (.lload 4, 2) := by decide +kernel
theorem dX11_tore_71 : decode cX11_tore 71 = .ok (.lreturn, 1) := by decide +kernel
theorem dX11_tore_72 : decode cX11_tore 72 = .ok (.lconst 0, 1) := by decide +kernel
theorem dX11_tore_73 : decode cX11_tore 73 = .ok (.lstore 6, 2) := by decide +kernel
theorem dX11_tore_75 : decode cX11_tore 75 = .ok (.iconst 0, 1) := by decide +kernel
theorem dX11_tore_76 : decode cX11_tore 76 = .ok (.istore 8, 2) := by decide +kernel
theorem dX11_tore_78 : decode cX11_tore 78 = .ok (.iload 8, 2) := by decide +kernel
theorem dX11_tore_80 : decode cX11_tore 80 = .ok (.aload_n 0, 1) := by decide +kernel
theorem dX11_tore_81 : decode cX11_tore 81 = .ok (.invokevirtual 71, 3) := by decide +kernel
theorem dX11_tore_84 : decode cX11_tore 84 = .ok (.if_icmp .ge 70, 3) := by decide +kernel
theorem dX11_tore_87 : decode cX11_tore 87 = .ok (.aload_n 0, 1) := by decide +kernel
theorem dX11_tore_88 : decode cX11_tore 88 = .ok (.iload_n 1, 1) := by decide +kernel
theorem dX11_tore_89 : decode cX11_tore 89 = .ok (.iload_n 2, 1) := by decide +kernel
theorem dX11_tore_90 : decode cX11_tore 90 = .ok (.iload 8, 2) := by decide +kernel
theorem dX11_tore_92 : decode cX11_tore 92 = .ok (.invokevirtual 349, 3) := by decide +kernel
theorem dX11_tore_95 : decode cX11_tore 95 = .ok (.lstore 9, 2) := by decide +kernel
theorem dX11_tore_97 : decode cX11_tore 97 = .ok (.lload 6, 2) := by decide +kernel
theorem dX11_tore_99 : decode cX11_tore 99 = .ok (.iload_n 3, 1) := by decide +kernel
theorem dX11_tore_100 : decode cX11_tore 100 = .ok (.iconst 1, 1) := by decide +kernel
theorem dX11_tore_101 : decode cX11_tore 101 = .ok (.if_icmp .ne 28, 3) := by decide +kernel
theorem dX11_tore_104 : decode cX11_tore 104 = .ok (.lload 4, 2) := by decide +kernel
theorem dX11_tore_106 : decode cX11_tore 106 = .ok (.lconst 0, 1) := by decide +kernel
theorem dX11_tore_107 : decode cX11_tore 107 = .ok (.lcmp, 1) := by decide +kernel
theorem dX11_tore_108 : decode cX11_tore 108 = .ok (.ifCond .le 17, 3) := by decide +kernel
theorem dX11_tore_111 : decode cX11_tore 111 = .ok (.lload 9, 2) := by decide +kernel
theorem dX11_tore_113 : decode cX11_tore 113 = .ok (.lconst 0, 1) := by decide +kernel
theorem dX11_tore_114 : decode cX11_tore 114 = .ok (.lcmp, 1) := by decide +kernel
theorem dX11_tore_115 : decode cX11_tore 115 = .ok (.ifCond .ne 10, 3) := by decide +kernel
theorem dX11_tore_118 : decode cX11_tore 118 = .ok (.lconst 1, 1) := by decide +kernel
theorem dX11_tore_119 : decode cX11_tore 119 = .ok (.iload 8, 2) := by decide +kernel
theorem dX11_tore_121 : decode cX11_tore 121 = .ok (.lshl, 1) := by decide +kernel
theorem dX11_tore_122 : decode cX11_tore 122 = .ok (.goto 23, 3) := by decide +kernel
theorem dX11_tore_125 : decode cX11_tore 125 = .ok (.lconst 0, 1) := by decide +kernel
theorem dX11_tore_126 : decode cX11_tore 126 = .ok (.goto 19, 3) := by decide +kernel
theorem dX11_tore_129 : decode cX11_tore 129 = .ok (.lload 9, 2) := by decide +kernel
theorem dX11_tore_131 : decode cX11_tore 131 = .ok (.lload 4, 2) := by decide +kernel
theorem dX11_tore_133 : decode cX11_tore 133 = .ok (.lcmp, 1) := by decide +kernel
theorem dX11_tore_134 : decode cX11_tore 134 = .ok (.ifCond .ge 10, 3) := by decide +kernel
theorem dX11_tore_137 : decode cX11_tore 137 = .ok (.lconst 1, 1) := by decide +kernel
theorem dX11_tore_138 : decode cX11_tore 138 = .ok (.iload 8, 2) := by decide +kernel
theorem dX11_tore_140 : decode cX11_tore 140 = .ok (.lshl, 1) := by decide +kernel
theorem dX11_tore_141 : decode cX11_tore 141 = .ok (.goto 4, 3) := by decide +kernel
theorem dX11_tore_144 : decode cX11_tore 144 = .ok (.lconst 0, 1) := by decide +kernel
theorem dX11_tore_145 : decode cX11_tore 145 = .ok (.lor, 1) := by decide +kernel
theorem dX11_tore_146 : decode cX11_tore 146 = .ok (.lstore 6, 2) := by decide +kernel
theorem dX11_tore_148 : decode cX11_tore 148 = .ok (.iinc 8 1, 3) := by decide +kernel
theorem dX11_tore_151 : decode cX11_tore 151 = .ok (.goto (-73), 3) := by decide +kernel
theorem dX11_tore_154 : decode cX11_tore 154 = .ok (.lload 6, 2) := by decide +kernel
theorem dX11_tore_156 : decode cX11_tore 156 = .ok (.lreturn, 1) := by decide +kernel
set_option maxHeartbeats 4000000 in
set_option maxRecDepth 100000 in
/-- reference: tore -/
theorem r_tore (l : Launch) (D : va_G) (cI cJ cB cC : ClassId) (h : Nat) (th : Int32) (aw : Nat) (ai : Nat) (ab : Nat) (ac : Nat) (hi : Int32) (re : Int32) (aP : Nat) (ta : Int32) (po : Int32) (en : Int32) (be : Int32) (de : Int32) (fa : Int32) (a5 : Nat) (sp : Int32) (av : Nat) (an : Nat) (ak : Nat) (ne : Int32) (aW : Nat) (aC : Nat) (ag : Nat) (aT : Nat) (aN : Nat) (aF : Nat) (fw : Nat → Int32) (fT : Nat → Int64) (fN : Nat → Int64) (a1 : Int32) (b1 : Int32) (c1 : Int32) (sz : Nat) (H_fw_W : wW fw) : Met l yX11_tore kwX11_tore ({ frames := 3, cells := 0, slots := 0, locals := 72 } : Room) (kPre D (kT cI cJ cB cC) sz [(h, oX11 th aw ai ab ac hi re aP ta po en be de fa a5 sp av an ak ne aW aC ag aT aN aF), (aw, .inl (cI, 2179, .inl fw)), (aT, .inl (cJ, 550, .inr (.inl fT))), (aN, .inl (cJ, 550, .inr (.inl fN)))] [.ref h, .int a1, .int b1, .int c1]) (va_Ql (fun (r : Int64) (uu : Int32 × (Nat → Int64) × (Nat → Int64)) => match uu with | (n0_, f1_, f2_) => True) (fun (uu : Int32 × (Nat → Int64) × (Nat → Int64)) (t : State) => match uu with | (n0_, f1_, f2_) => kB D (kT cI cJ cB cC) (va_A [(h, oX11 th aw ai ab ac hi re aP ta po en be de fa a5 sp av an ak ne aW aC ag aT aN aF), (aw, .inl (cI, 2179, .inl fw)), (aT, .inl (cJ, 550, .inr (.inl fT))), (aN, .inl (cJ, 550, .inr (.inl fN)))] sz) [(h, oX11 n0_ aw ai ab ac hi re aP ta po en be de fa a5 sp av an ak ne aW aC ag aT aN aF), (aw, .inl (cI, 2179, .inl fw)), (aT, .inl (cJ, 550, .inr (.inl f1_))), (aN, .inl (cJ, 550, .inr (.inl f2_)))] t) (va_A [(h, oX11 th aw ai ab ac hi re aP ta po en be de fa a5 sp av an ak ne aW aC ag aT aN aF), (aw, .inl (cI, 2179, .inl fw)), (aT, .inl (cJ, 550, .inr (.inl fT))), (aN, .inl (cJ, 550, .inr (.inl fN)))] sz)) 0 0 (va_A [(h, oX11 th aw ai ab ac hi re aP ta po en be de fa a5 sp av an ak ne aW aC ag aT aN aF), (aw, .inl (cI, 2179, .inl fw)), (aT, .inl (cJ, 550, .inr (.inl fT))), (aN, .inl (cJ, 550, .inr (.inl fN)))] sz) := by
  refine Met.ofW (cc := cX11_tore) (maxL := 11) (ret := (some .long)) (by decide) rfl ?_
  intro p e s m args below meth c s₁ B hml hv
  obtain ⟨rfl, hsz, hN, hE, hP, hK, hD0⟩ := hv
  have hx := B.exec
  have hb := B.bytes
  have hr := B.returns
  have hts := fun (w : Cond) (h : w ∈ kG) => atoms_spec (ws := kwX11_tore) B.pre w (List.mem_cons_of_mem _ h)
  have hown : s.vm.findClass RX11 = some m.cls := findClass_of_methodNamed B.named
  subst hsz
  have hD := hD0.self (sz := s.heap.size)
  generalize hAe : va_A [(h, oX11 th aw ai ab ac hi re aP ta po en be de fa a5 sp av an ak ne aW aC ag aT aN aF), (aw, .inl (cI, 2179, .inl fw)), (aT, .inl (cJ, 550, .inr (.inl fT))), (aN, .inl (cJ, 550, .inr (.inl fN)))] s.heap.size = A at hD hE ⊢
  have hA : ∀ q : Nat, s.heap.size ≤ q → A q := fun q h => by rw [← hAe]; exact Or.inr h
  have hl := lv_entry ([.ref h, .int a1, .int b1, .int c1]) (n := 11) (Nat.le_of_ble_eq_true rfl)
  rw [lg_entry_eq]
  generalize (lg_sl ([.ref h, .int a1, .int b1, .int c1]) ++ List.replicate (11 - (lg_sl ([.ref h, .int a1, .int b1, .int c1])).length) Slot.unset).toArray = ls at hl ⊢
  have hl : lv_has ls 11 [(0, .ref h), (1, .int a1), (2, .int b1), (3, .int c1)] := hl
  obtain ⟨H, hH0⟩ : ∃ H, H = s.heap := ⟨_, rfl⟩
  have hS : va_S A s.heap H [] := by rw [hH0]; exact va_S.rf
  have hP : va_P D vwCl [(h, oX11 th aw ai ab ac hi re aP ta po en be de fa a5 sp av an ak ne aW aC ag aT aN aF), (aw, .inl (cI, 2179, .inl fw)), (aT, .inl (cJ, 550, .inr (.inl fT))), (aN, .inl (cJ, 550, .inr (.inl fN)))] H := by rw [hH0]; exact hP
  refine kHeap hH0 ?_
  clear hH0
  refine lv_aload_n hx hb dX11_tore_0 rfl (lv_at hl 0 rfl) ?_
  refine lv_iconst (v := 0) hx hb dX11_tore_1 (by decide) ?_
  refine va_put (D := D) (ci := 10) (v := .int 0) (ty := .int) (C := RX11) (T := TX11) (N := 26) hx hb hts iG_X11 tyX11 tyX11_ok nmX11 hown hK hP hD hS 0 rfl rfl 0 (by decide) (hts _ w6_8) (fun _ h9 => h9) rfl (by decide +kernel) rfl rfl (Nat.le_of_ble_eq_true rfl) dX11_tore_2 (fun H locs hP hD hS => ?_)
  have hP : va_P D vwCl [(h, oX11 0 aw ai ab ac hi re aP ta po en be de fa a5 sp av an ak ne aW aC ag aT aN aF), (aw, .inl (cI, 2179, .inl fw)), (aT, .inl (cJ, 550, .inr (.inl fT))), (aN, .inl (cJ, 550, .inr (.inl fN)))] H := hP
  have hD : va_D A [(h, oX11 0 aw ai ab ac hi re aP ta po en be de fa a5 sp av an ak ne aW aC ag aT aN aF), (aw, .inl (cI, 2179, .inl fw)), (aT, .inl (cJ, 550, .inr (.inl fT))), (aN, .inl (cJ, 550, .inr (.inl fN)))] := hD
  refine lv_aload_n hx hb dX11_tore_5 rfl (lv_at hl 0 rfl) ?_
  refine lv_iload_n hx hb dX11_tore_6 rfl (lv_at hl 3 rfl) ?_
  refine lv_iconst (v := 0) hx hb dX11_tore_7 (by decide) ?_
  refine lv_iconst (v := 2) hx hb dX11_tore_8 (by decide) ?_
  refine kpurei (wc := []) hP hD hS hA [] rfl (by decide) (fun hPc hDc hFc => va_runS (As := [.int c1, .int 0, .int 2]) (rest := [.ref h]) ⟨hx, hb, hml, hown, hts⟩ (r_in_0_2 l D cI cJ cB cC c1 H.size) (va_cwS 3 hts gX11_tore_X11_in rfl rfl rfl hdX11_in ⟨Nat.le_of_ble_eq_true rfl, Nat.le_of_ble_eq_true rfl⟩) ⟨kBlind, fun U hU hW => ⟨rfl, by rw [hU], hN.warm hW, hE.pass hS hFc hW hU, by rw [hU]; exact hPc, va_K.moved hW.alike hK, hDc⟩⟩ rfl rfl hl.1 rfl (lv_room (Nat.le_of_ble_eq_true rfl)) dX11_tore_9 ⟨Nat.le_of_ble_eq_true rfl, Nat.le_of_ble_eq_true rfl⟩) (fun r1 u H locs hw hP hS => ?_)
  rcases hw with rfl | ⟨rfl, kc2_0⟩
  · skip
    refine lv_if_ne (tgt := 19) hx hb dX11_tore_12 (by decide) (fun c4 => absurd (by decide) c4) (fun _ => ?_)
    refine lv_iconst (v := 1) hx hb dX11_tore_15 (by decide) ?_
    refine lv_goto (tgt := 20) hx hb dX11_tore_16 (by decide) ?_
    refine lv_iconst (v := 1) hx hb dX11_tore_20 (by decide) ?_
    refine kcalli (wc := [(h, oX11 0 aw ai ab ac hi re aP ta po en be de fa a5 sp av an ak ne aW aC ag aT aN aF)]) (wr := [(aw, .inl (cI, 2179, .inl fw)), (aT, .inl (cJ, 550, .inr (.inl fT))), (aN, .inl (cJ, 550, .inr (.inl fN)))]) hP hD hS hA [0] [1, 2, 3] rfl rfl (by decide) (by decide) (by decide) (fun hPc hDc hFc => va_runV (As := [.int 1, .int 1]) (rest := []) ⟨hx, hb, hml, hown, hts⟩ (r_throwsIf1_1 l D cI cJ cB cC h 0 aw ai ab ac hi re aP ta po en be de fa a5 sp av an ak ne aW aC ag aT aN aF 1 H.size) (cwV 2 hts gX11_tore_X11_throwsIf rfl rfl rfl ⟨rfl, hdX11_throwsIf⟩ ⟨Nat.le_of_ble_eq_true rfl, Nat.le_of_ble_eq_true rfl⟩) ⟨kBlind, va_recv hK hPc (ci := 10) (q0 := 0) rfl rfl, fun U hU hW => ⟨rfl, by rw [hU], hN.warm hW, hE.pass hS hFc hW hU, by rw [hU]; exact hPc, va_K.moved hW.alike hK, hDc⟩⟩ rfl rfl hl.1 rfl (lv_room (Nat.le_of_ble_eq_true rfl)) dX11_tore_21 ⟨Nat.le_of_ble_eq_true rfl, Nat.le_of_ble_eq_true rfl⟩) (fun r5 u H locs hw hP hD hS => ?_)
    obtain ⟨x6, rfl⟩ : ∃ z, z = u := ⟨_, rfl⟩
    have hP : va_P D vwCl [(aw, .inl (cI, 2179, .inl fw)), (aT, .inl (cJ, 550, .inr (.inl fT))), (aN, .inl (cJ, 550, .inr (.inl fN))), (h, oX11 x6 aw ai ab ac hi re aP ta po en be de fa a5 sp av an ak ne aW aC ag aT aN aF)] H := hP
    have hD : va_D A [(aw, .inl (cI, 2179, .inl fw)), (aT, .inl (cJ, 550, .inr (.inl fT))), (aN, .inl (cJ, 550, .inr (.inl fN))), (h, oX11 x6 aw ai ab ac hi re aP ta po en be de fa a5 sp av an ak ne aW aC ag aT aN aF)] := hD
    have k7 := hw
    refine lv_if_ne (tgt := 54) hx hb dX11_tore_24 (by decide) (fun _ => ?_) (fun c9 => absurd c9 (rg_neq k7 (rg_lit (n := 0) (by decide)) (by decide)))
    refine lv_lconst (v := 0) hx hb dX11_tore_54 (by decide) ?_
    have hP9 := hP.sub (ws' := [(h, oX11 x6 aw ai ab ac hi re aP ta po en be de fa a5 sp av an ak ne aW aC ag aT aN aF), (aw, .inl (cI, 2179, .inl fw)), (aT, .inl (cJ, 550, .inr (.inl fT))), (aN, .inl (cJ, 550, .inr (.inl fN)))]) [3, 0, 1, 2] rfl
    have hD9 := hD.sub (ws' := [(h, oX11 x6 aw ai ab ac hi re aP ta po en be de fa a5 sp av an ak ne aW aC ag aT aN aF), (aw, .inl (cI, 2179, .inl fw)), (aT, .inl (cJ, 550, .inr (.inl fT))), (aN, .inl (cJ, 550, .inr (.inl fN)))]) [3, 0, 1, 2] (by decide) rfl
    exact W.lret (v := 0) hx hb hr (fun t ht hW => ⟨⟨0, (x6, fT, fN), rfl, trivial, by rw [ht]; exact hP9, va_K.moved hW.alike hK, hD9⟩, hS.F ht⟩) hS.2.2 dX11_tore_55
  · skip
    refine lv_if_ne (tgt := 19) hx hb dX11_tore_12 (by decide) (fun _ => ?_) (fun c11 => absurd c11 (by decide))
    refine lv_iconst (v := 0) hx hb dX11_tore_19 (by decide) ?_
    refine lv_iconst (v := 1) hx hb dX11_tore_20 (by decide) ?_
    refine kpurei (wc := [(h, oX11 0 aw ai ab ac hi re aP ta po en be de fa a5 sp av an ak ne aW aC ag aT aN aF)]) hP hD hS hA [0] rfl (by decide) (fun hPc hDc hFc => va_runV (As := [.int 0, .int 1]) (rest := []) ⟨hx, hb, hml, hown, hts⟩ (r_throwsIf0_1 l D cI cJ cB cC h 0 aw ai ab ac hi re aP ta po en be de fa a5 sp av an ak ne aW aC ag aT aN aF 1 H.size) (cwV 2 hts gX11_tore_X11_throwsIf rfl rfl rfl ⟨rfl, hdX11_throwsIf⟩ ⟨Nat.le_of_ble_eq_true rfl, Nat.le_of_ble_eq_true rfl⟩) ⟨kBlind, va_recv hK hPc (ci := 10) (q0 := 0) rfl rfl, fun U hU hW => ⟨rfl, by rw [hU], hN.warm hW, hE.pass hS hFc hW hU, by rw [hU]; exact hPc, va_K.moved hW.alike hK, hDc⟩⟩ rfl rfl hl.1 rfl (lv_room (Nat.le_of_ble_eq_true rfl)) dX11_tore_21 ⟨Nat.le_of_ble_eq_true rfl, Nat.le_of_ble_eq_true rfl⟩) (fun r12 u H locs hw hP hS => ?_)
    have k13 := hw
    refine lv_if_ne (tgt := 54) hx hb dX11_tore_24 (by decide) (fun c673 => absurd (rg_eq k13 (rg_lit (n := 0) (by decide)) (by decide)) c673) (fun _ => ?_)
    refine lv_aload_n hx hb dX11_tore_27 rfl (lv_at hl 0 rfl) ?_
    refine lv_iload_n hx hb dX11_tore_28 rfl (lv_at hl 1 rfl) ?_
    refine k_join (hd := 42) (cells2 := 0) (slots2 := 0) (fun (_ : Unit) => [.ref h]) (fun (_ : Unit) (H : Heap) (locs : List Loc) (ls : Array Slot) => va_P D vwCl [(h, oX11 0 aw ai ab ac hi re aP ta po en be de fa a5 sp av an ak ne aW aC ag aT aN aF), (aw, .inl (cI, 2179, .inl fw)), (aT, .inl (cJ, 550, .inr (.inl fT))), (aN, .inl (cJ, 550, .inr (.inl fN)))] H ∧ va_D A [(h, oX11 0 aw ai ab ac hi re aP ta po en be de fa a5 sp av an ak ne aW aC ag aT aN aF), (aw, .inl (cI, 2179, .inl fw)), (aT, .inl (cJ, 550, .inr (.inl fT))), (aN, .inl (cJ, 550, .inr (.inl fN)))] ∧ va_S A s.heap H locs ∧ lv_has ls 11 [(0, .ref h), (1, .int a1), (2, .int b1), (3, .int c1)]) (fun u H locs ls hI => ?_) (fun hJ42 => ?_)
    · skip
      clear hP hD hS hl
      obtain ⟨hP, hD, hS, hl⟩ := hI
      have hP : va_P D vwCl [(h, oX11 0 aw ai ab ac hi re aP ta po en be de fa a5 sp av an ak ne aW aC ag aT aN aF), (aw, .inl (cI, 2179, .inl fw)), (aT, .inl (cJ, 550, .inr (.inl fT))), (aN, .inl (cJ, 550, .inr (.inl fN)))] H := hP
      have hD : va_D A [(h, oX11 0 aw ai ab ac hi re aP ta po en be de fa a5 sp av an ak ne aW aC ag aT aN aF), (aw, .inl (cI, 2179, .inl fw)), (aT, .inl (cJ, 550, .inr (.inl fT))), (aN, .inl (cJ, 550, .inr (.inl fN)))] := hD
      have hl : lv_has ls 11 [(0, .ref h), (1, .int a1), (2, .int b1), (3, .int c1)] := hl
      show W _ _ _ _ _ _ _ _ _ _ _ _ _ _ _ (F0 m 42 ls [.ref h])
      refine lv_iconst (v := 1) hx hb dX11_tore_42 (by decide) ?_
      refine lv_goto (tgt := 47) hx hb dX11_tore_43 (by decide) ?_
      refine lv_iconst (v := 2) hx hb dX11_tore_47 (by decide) ?_
      refine kcalli (wc := [(h, oX11 0 aw ai ab ac hi re aP ta po en be de fa a5 sp av an ak ne aW aC ag aT aN aF)]) (wr := [(aw, .inl (cI, 2179, .inl fw)), (aT, .inl (cJ, 550, .inr (.inl fT))), (aN, .inl (cJ, 550, .inr (.inl fN)))]) hP hD hS hA [0] [1, 2, 3] rfl rfl (by decide) (by decide) (by decide) (fun hPc hDc hFc => va_runV (As := [.int 1, .int 2]) (rest := []) ⟨hx, hb, hml, hown, hts⟩ (r_throwsIf1_1 l D cI cJ cB cC h 0 aw ai ab ac hi re aP ta po en be de fa a5 sp av an ak ne aW aC ag aT aN aF 2 H.size) (cwV 2 hts gX11_tore_X11_throwsIf rfl rfl rfl ⟨rfl, hdX11_throwsIf⟩ ⟨Nat.le_of_ble_eq_true rfl, Nat.le_of_ble_eq_true rfl⟩) ⟨kBlind, va_recv hK hPc (ci := 10) (q0 := 0) rfl rfl, fun U hU hW => ⟨rfl, by rw [hU], hN.warm hW, hE.pass hS hFc hW hU, by rw [hU]; exact hPc, va_K.moved hW.alike hK, hDc⟩⟩ rfl rfl hl.1 rfl (lv_room (Nat.le_of_ble_eq_true rfl)) dX11_tore_48 ⟨Nat.le_of_ble_eq_true rfl, Nat.le_of_ble_eq_true rfl⟩) (fun r681 u H locs hw hP hD hS => ?_)
      obtain ⟨x682, rfl⟩ : ∃ z, z = u := ⟨_, rfl⟩
      have hP : va_P D vwCl [(aw, .inl (cI, 2179, .inl fw)), (aT, .inl (cJ, 550, .inr (.inl fT))), (aN, .inl (cJ, 550, .inr (.inl fN))), (h, oX11 x682 aw ai ab ac hi re aP ta po en be de fa a5 sp av an ak ne aW aC ag aT aN aF)] H := hP
      have hD : va_D A [(aw, .inl (cI, 2179, .inl fw)), (aT, .inl (cJ, 550, .inr (.inl fT))), (aN, .inl (cJ, 550, .inr (.inl fN))), (h, oX11 x682 aw ai ab ac hi re aP ta po en be de fa a5 sp av an ak ne aW aC ag aT aN aF)] := hD
      have k683 := hw
      refine lv_if_eq (tgt := 56) hx hb dX11_tore_51 (by decide) (fun c684 => absurd c684 (rg_neq k683 (rg_lit (n := 0) (by decide)) (by decide))) (fun _ => ?_)
      refine lv_lconst (v := 0) hx hb dX11_tore_54 (by decide) ?_
      have hP9 := hP.sub (ws' := [(h, oX11 x682 aw ai ab ac hi re aP ta po en be de fa a5 sp av an ak ne aW aC ag aT aN aF), (aw, .inl (cI, 2179, .inl fw)), (aT, .inl (cJ, 550, .inr (.inl fT))), (aN, .inl (cJ, 550, .inr (.inl fN)))]) [3, 0, 1, 2] rfl
      have hD9 := hD.sub (ws' := [(h, oX11 x682 aw ai ab ac hi re aP ta po en be de fa a5 sp av an ak ne aW aC ag aT aN aF), (aw, .inl (cI, 2179, .inl fw)), (aT, .inl (cJ, 550, .inr (.inl fT))), (aN, .inl (cJ, 550, .inr (.inl fN)))]) [3, 0, 1, 2] (by decide) rfl
      exact W.lret (v := 0) hx hb hr (fun t ht hW => ⟨⟨0, (x682, fT, fN), rfl, trivial, by rw [ht]; exact hP9, va_K.moved hW.alike hK, hD9⟩, hS.F ht⟩) hS.2.2 dX11_tore_55
    refine lv_if_lt (tgt := 42) hx hb dX11_tore_29 (by decide) (fun c685 => ?_) (fun c685 => ?_)
    · skip
      have k686 : Rg a1 (-2147483648) (-1) := rg_l1 (ltI c685) (rg_any a1) (rg_lit (n := 0) (by decide)) (by decide)
      exact hJ42 () _ _ _ ⟨hP.sub (ws' := [(h, oX11 0 aw ai ab ac hi re aP ta po en be de fa a5 sp av an ak ne aW aC ag aT aN aF), (aw, .inl (cI, 2179, .inl fw)), (aT, .inl (cJ, 550, .inr (.inl fT))), (aN, .inl (cJ, 550, .inr (.inl fN)))]) [0, 1, 2, 3] rfl, hD.sub (ws' := [(h, oX11 0 aw ai ab ac hi re aP ta po en be de fa a5 sp av an ak ne aW aC ag aT aN aF), (aw, .inl (cI, 2179, .inl fw)), (aT, .inl (cJ, 550, .inr (.inl fT))), (aN, .inl (cJ, 550, .inr (.inl fN)))]) [0, 1, 2, 3] (by decide) rfl, hS, lv_sub (l' := [(0, .ref h), (1, .int a1), (2, .int b1), (3, .int c1)]) hl [0, 1, 2, 3] rfl⟩
    · skip
      have k687 : Rg a1 0 2147483647 := rg_e2 (nltI c685) (rg_lit (n := 0) (by decide)) (rg_any a1) (by decide)
      refine lv_iload_n hx hb dX11_tore_32 rfl (lv_at hl 2 rfl) ?_
      refine lv_iconst (v := 1) hx hb dX11_tore_33 (by decide) ?_
      refine lv_bipush (v := 6) hx hb dX11_tore_34 (by decide) ?_
      refine kpurei (wc := []) hP hD hS hA [] rfl (by decide) (fun hPc hDc hFc => va_runS (As := [.int b1, .int 1, .int 6]) (rest := [.ref h]) ⟨hx, hb, hml, hown, hts⟩ (r_in_1_6 l D cI cJ cB cC b1 H.size) (va_cwS 3 hts gX11_tore_X11_in rfl rfl rfl hdX11_in ⟨Nat.le_of_ble_eq_true rfl, Nat.le_of_ble_eq_true rfl⟩) ⟨kBlind, fun U hU hW => ⟨rfl, by rw [hU], hN.warm hW, hE.pass hS hFc hW hU, by rw [hU]; exact hPc, va_K.moved hW.alike hK, hDc⟩⟩ rfl rfl hl.1 rfl (lv_room (Nat.le_of_ble_eq_true rfl)) dX11_tore_36 ⟨Nat.le_of_ble_eq_true rfl, Nat.le_of_ble_eq_true rfl⟩) (fun r688 u H locs hw hP hS => ?_)
      rcases hw with rfl | ⟨rfl, kc689_0⟩
      · skip
        refine lv_if_ne (tgt := 46) hx hb dX11_tore_39 (by decide) (fun c690 => absurd (by decide) c690) (fun _ => ?_)
        exact hJ42 () _ _ _ ⟨hP.sub (ws' := [(h, oX11 0 aw ai ab ac hi re aP ta po en be de fa a5 sp av an ak ne aW aC ag aT aN aF), (aw, .inl (cI, 2179, .inl fw)), (aT, .inl (cJ, 550, .inr (.inl fT))), (aN, .inl (cJ, 550, .inr (.inl fN)))]) [0, 1, 2, 3] rfl, hD.sub (ws' := [(h, oX11 0 aw ai ab ac hi re aP ta po en be de fa a5 sp av an ak ne aW aC ag aT aN aF), (aw, .inl (cI, 2179, .inl fw)), (aT, .inl (cJ, 550, .inr (.inl fT))), (aN, .inl (cJ, 550, .inr (.inl fN)))]) [0, 1, 2, 3] (by decide) rfl, hS, lv_sub (l' := [(0, .ref h), (1, .int a1), (2, .int b1), (3, .int c1)]) hl [0, 1, 2, 3] rfl⟩
      · skip
        refine lv_if_ne (tgt := 46) hx hb dX11_tore_39 (by decide) (fun _ => ?_) (fun c691 => absurd c691 (by decide))
        refine lv_iconst (v := 0) hx hb dX11_tore_46 (by decide) ?_
        refine lv_iconst (v := 2) hx hb dX11_tore_47 (by decide) ?_
        refine kpurei (wc := [(h, oX11 0 aw ai ab ac hi re aP ta po en be de fa a5 sp av an ak ne aW aC ag aT aN aF)]) hP hD hS hA [0] rfl (by decide) (fun hPc hDc hFc => va_runV (As := [.int 0, .int 2]) (rest := []) ⟨hx, hb, hml, hown, hts⟩ (r_throwsIf0_1 l D cI cJ cB cC h 0 aw ai ab ac hi re aP ta po en be de fa a5 sp av an ak ne aW aC ag aT aN aF 2 H.size) (cwV 2 hts gX11_tore_X11_throwsIf rfl rfl rfl ⟨rfl, hdX11_throwsIf⟩ ⟨Nat.le_of_ble_eq_true rfl, Nat.le_of_ble_eq_true rfl⟩) ⟨kBlind, va_recv hK hPc (ci := 10) (q0 := 0) rfl rfl, fun U hU hW => ⟨rfl, by rw [hU], hN.warm hW, hE.pass hS hFc hW hU, by rw [hU]; exact hPc, va_K.moved hW.alike hK, hDc⟩⟩ rfl rfl hl.1 rfl (lv_room (Nat.le_of_ble_eq_true rfl)) dX11_tore_48 ⟨Nat.le_of_ble_eq_true rfl, Nat.le_of_ble_eq_true rfl⟩) (fun r692 u H locs hw hP hS => ?_)
        have k693 := hw
        refine lv_if_eq (tgt := 56) hx hb dX11_tore_51 (by decide) (fun _ => ?_) (fun c694 => absurd (rg_eq k693 (rg_lit (n := 0) (by decide)) (by decide)) c694)
        refine lv_aload_n hx hb dX11_tore_56 rfl (lv_at hl 0 rfl) ?_
        refine lv_iload_n hx hb dX11_tore_57 rfl (lv_at hl 1 rfl) ?_
        refine lv_iload_n hx hb dX11_tore_58 rfl (lv_at hl 2 rfl) ?_
        refine lv_iconst (v := (-1)) hx hb dX11_tore_59 (by decide) ?_
        refine kcalll (wc := [(h, oX11 0 aw ai ab ac hi re aP ta po en be de fa a5 sp av an ak ne aW aC ag aT aN aF), (aw, .inl (cI, 2179, .inl fw)), (aT, .inl (cJ, 550, .inr (.inl fT))), (aN, .inl (cJ, 550, .inr (.inl fN)))]) (wr := []) hP hD hS hA [0, 1, 2, 3] [] rfl rfl (by decide) (by decide) (by decide) (fun hPc hDc hFc => va_runV (As := [.int a1, .int b1, .int (-1)]) (rest := []) ⟨hx, hb, hml, hown, hts⟩ (r_tornBy l D cI cJ cB cC h 0 aw ai ab ac hi re aP ta po en be de fa a5 sp av an ak ne aW aC ag aT aN aF fw fT fN a1 b1 (-1) H.size k687 H_fw_W) (cwV 3 hts gX11_tore_X11_tornBy rfl rfl rfl ⟨rfl, hdX11_tornBy⟩ ⟨Nat.le_of_ble_eq_true rfl, Nat.le_of_ble_eq_true rfl⟩) ⟨kBlind, va_recv hK hPc (ci := 10) (q0 := 0) rfl rfl, fun U hU hW => ⟨rfl, by rw [hU], hN.warm hW, hE.pass hS hFc hW hU, by rw [hU]; exact hPc, va_K.moved hW.alike hK, hDc⟩⟩ rfl rfl hl.1 rfl (lv_room (Nat.le_of_ble_eq_true rfl)) dX11_tore_60 ⟨Nat.le_of_ble_eq_true rfl, Nat.le_of_ble_eq_true rfl⟩) (fun r695 u H locs hw hP hD hS => ?_)
        obtain ⟨g696, g697⟩ := u
        have hP : va_P D vwCl [(h, oX11 0 aw ai ab ac hi re aP ta po en be de fa a5 sp av an ak ne aW aC ag aT aN aF), (aw, .inl (cI, 2179, .inl fw)), (aT, .inl (cJ, 550, .inr (.inl g696))), (aN, .inl (cJ, 550, .inr (.inl g697)))] H := hP
        have hD : va_D A [(h, oX11 0 aw ai ab ac hi re aP ta po en be de fa a5 sp av an ak ne aW aC ag aT aN aF), (aw, .inl (cI, 2179, .inl fw)), (aT, .inl (cJ, 550, .inr (.inl g696))), (aN, .inl (cJ, 550, .inr (.inl g697)))] := hD
        refine lv_lstore (lv' := [(4, .long r695), (0, .ref h), (1, .int a1), (2, .int b1), (3, .int c1)]) hx hb dX11_tore_63 hl (by decide) rfl (fun ls hl => ?_)
        refine lv_iload_n hx hb dX11_tore_65 rfl (lv_at hl 4 rfl) ?_
        refine lv_if_ne (tgt := 72) hx hb dX11_tore_66 (by decide) (fun c698 => ?_) (fun c698 => ?_)
        · skip
          have k699 : Rg c1 1 2 := rg_n1 (neI c698) kc2_0 (rg_lit (n := 0) (by decide)) (by decide)
          refine lv_lconst (v := 0) hx hb dX11_tore_72 (by decide) ?_
          refine lv_lstore (lv' := [(6, .long 0), (4, .long r695), (0, .ref h), (1, .int a1), (2, .int b1), (3, .int c1)]) hx hb dX11_tore_73 hl (by decide) rfl (fun ls hl => ?_)
          refine lv_iconst (v := 0) hx hb dX11_tore_75 (by decide) ?_
          refine lv_istore (lv' := [(8, .int 0), (6, .long 0), (4, .long r695), (0, .ref h), (1, .int a1), (2, .int b1), (3, .int c1)]) hx hb dX11_tore_76 hl (by decide) rfl (fun ls hl => ?_)
          refine k_loop (hd := 78) (fun (u : Int32 × Int64 × (Nat → Int64) × (Nat → Int64)) => match u with | (y1300, y1301, g1302, g1303) => (10 - (y1300).toInt).toNat) (fun (u : Int32 × Int64 × (Nat → Int64) × (Nat → Int64)) (H : Heap) (locs : List Loc) (ls : Array Slot) => match u with | (y1300, y1301, g1302, g1303) => Rg y1300 0 10 ∧ va_P D vwCl [(h, oX11 0 aw ai ab ac hi re aP ta po en be de fa a5 sp av an ak ne aW aC ag aT aN aF), (aw, .inl (cI, 2179, .inl fw)), (aT, .inl (cJ, 550, .inr (.inl g1302))), (aN, .inl (cJ, 550, .inr (.inl g1303)))] H ∧ va_D A [(h, oX11 0 aw ai ab ac hi re aP ta po en be de fa a5 sp av an ak ne aW aC ag aT aN aF), (aw, .inl (cI, 2179, .inl fw)), (aT, .inl (cJ, 550, .inr (.inl g1302))), (aN, .inl (cJ, 550, .inr (.inl g1303)))] ∧ va_S A s.heap H locs ∧ lv_has ls 11 [(8, .int y1300), (6, .long y1301), (4, .long r695), (0, .ref h), (1, .int a1), (2, .int b1), (3, .int c1)]) ((0 : Int32), (0 : Int64), g696, g697) ⟨(rg_w (rg_lit (n := 0) (by decide)) (by decide)), hP.sub (ws' := [(h, oX11 0 aw ai ab ac hi re aP ta po en be de fa a5 sp av an ak ne aW aC ag aT aN aF), (aw, .inl (cI, 2179, .inl fw)), (aT, .inl (cJ, 550, .inr (.inl g696))), (aN, .inl (cJ, 550, .inr (.inl g697)))]) [0, 1, 2, 3] rfl, hD.sub (ws' := [(h, oX11 0 aw ai ab ac hi re aP ta po en be de fa a5 sp av an ak ne aW aC ag aT aN aF), (aw, .inl (cI, 2179, .inl fw)), (aT, .inl (cJ, 550, .inr (.inl g696))), (aN, .inl (cJ, 550, .inr (.inl g697)))]) [0, 1, 2, 3] (by decide) rfl, hS, lv_sub (l' := [(8, .int 0), (6, .long 0), (4, .long r695), (0, .ref h), (1, .int a1), (2, .int b1), (3, .int c1)]) hl [0, 1, 2, 3, 4, 5, 6] rfl⟩ (fun u H locs ls hI ih1304 => ?_)
          clear hP hD hS hl
          obtain ⟨y1300, y1301, g1302, g1303⟩ := u
          obtain ⟨hy1300, hP, hD, hS, hl⟩ := hI
          have hP : va_P D vwCl [(h, oX11 0 aw ai ab ac hi re aP ta po en be de fa a5 sp av an ak ne aW aC ag aT aN aF), (aw, .inl (cI, 2179, .inl fw)), (aT, .inl (cJ, 550, .inr (.inl g1302))), (aN, .inl (cJ, 550, .inr (.inl g1303)))] H := hP
          have hD : va_D A [(h, oX11 0 aw ai ab ac hi re aP ta po en be de fa a5 sp av an ak ne aW aC ag aT aN aF), (aw, .inl (cI, 2179, .inl fw)), (aT, .inl (cJ, 550, .inr (.inl g1302))), (aN, .inl (cJ, 550, .inr (.inl g1303)))] := hD
          have hl : lv_has ls 11 [(8, .int y1300), (6, .long y1301), (4, .long r695), (0, .ref h), (1, .int a1), (2, .int b1), (3, .int c1)] := hl
          refine lv_iload hx hb dX11_tore_78 (lv_at hl 0 rfl) ?_
          refine lv_aload_n hx hb dX11_tore_80 rfl (lv_at hl 3 rfl) ?_
          refine kpurei (wc := [(h, oX11 0 aw ai ab ac hi re aP ta po en be de fa a5 sp av an ak ne aW aC ag aT aN aF), (aw, .inl (cI, 2179, .inl fw))]) hP hD hS hA [0, 1] rfl (by decide) (fun hPc hDc hFc => va_runV (As := []) (rest := [.int y1300]) ⟨hx, hb, hml, hown, hts⟩ (r_men l D cI cJ cB cC h 0 aw ai ab ac hi re aP ta po en be de fa a5 sp av an ak ne aW aC ag aT aN aF fw H.size H_fw_W) (cwV 0 hts gX11_tore_X11_men rfl rfl rfl ⟨rfl, hdX11_men⟩ ⟨Nat.le_of_ble_eq_true rfl, Nat.le_of_ble_eq_true rfl⟩) ⟨kBlind, va_recv hK hPc (ci := 10) (q0 := 0) rfl rfl, fun U hU hW => ⟨rfl, by rw [hU], hN.warm hW, hE.pass hS hFc hW hU, by rw [hU]; exact hPc, va_K.moved hW.alike hK, hDc⟩⟩ rfl rfl hl.1 rfl (lv_room (Nat.le_of_ble_eq_true rfl)) dX11_tore_81 ⟨Nat.le_of_ble_eq_true rfl, Nat.le_of_ble_eq_true rfl⟩) (fun r1305 u H locs hw hP hS => ?_)
          obtain ⟨k1306, k1307⟩ := hw
          refine lv_icmp_ge (tgt := 154) hx hb dX11_tore_84 (by decide) (fun c1308 => ?_) (fun c1308 => ?_)
          · skip
            refine lv_lload hx hb dX11_tore_154 (lv_at hl 1 rfl) ?_
            have hP9 := hP.sub (ws' := [(h, oX11 0 aw ai ab ac hi re aP ta po en be de fa a5 sp av an ak ne aW aC ag aT aN aF), (aw, .inl (cI, 2179, .inl fw)), (aT, .inl (cJ, 550, .inr (.inl g1302))), (aN, .inl (cJ, 550, .inr (.inl g1303)))]) [0, 1, 2, 3] rfl
            have hD9 := hD.sub (ws' := [(h, oX11 0 aw ai ab ac hi re aP ta po en be de fa a5 sp av an ak ne aW aC ag aT aN aF), (aw, .inl (cI, 2179, .inl fw)), (aT, .inl (cJ, 550, .inr (.inl g1302))), (aN, .inl (cJ, 550, .inr (.inl g1303)))]) [0, 1, 2, 3] (by decide) rfl
            exact W.lret (v := y1301) hx hb hr (fun t ht hW => ⟨⟨y1301, ((0 : Int32), g1302, g1303), rfl, trivial, by rw [ht]; exact hP9, va_K.moved hW.alike hK, hD9⟩, hS.F ht⟩) hS.2.2 dX11_tore_156
          · skip
            have k1309 : Rg y1300 0 9 := rg_l1 (nleI c1308) hy1300 k1307 (by decide)
            have k1310 : Rg r1305 1 10 := rg_l2 (nleI c1308) hy1300 k1307 (by decide)
            refine lv_aload_n hx hb dX11_tore_87 rfl (lv_at hl 3 rfl) ?_
            refine lv_iload_n hx hb dX11_tore_88 rfl (lv_at hl 4 rfl) ?_
            refine lv_iload_n hx hb dX11_tore_89 rfl (lv_at hl 5 rfl) ?_
            refine lv_iload hx hb dX11_tore_90 (lv_at hl 0 rfl) ?_
            refine kcalll (wc := [(h, oX11 0 aw ai ab ac hi re aP ta po en be de fa a5 sp av an ak ne aW aC ag aT aN aF), (aw, .inl (cI, 2179, .inl fw)), (aT, .inl (cJ, 550, .inr (.inl g1302))), (aN, .inl (cJ, 550, .inr (.inl g1303)))]) (wr := []) hP hD hS hA [0, 1, 2, 3] [] rfl rfl (by decide) (by decide) (by decide) (fun hPc hDc hFc => va_runV (As := [.int a1, .int b1, .int y1300]) (rest := []) ⟨hx, hb, hml, hown, hts⟩ (r_tornBy l D cI cJ cB cC h 0 aw ai ab ac hi re aP ta po en be de fa a5 sp av an ak ne aW aC ag aT aN aF fw g1302 g1303 a1 b1 y1300 H.size k687 H_fw_W) (cwV 3 hts gX11_tore_X11_tornBy rfl rfl rfl ⟨rfl, hdX11_tornBy⟩ ⟨Nat.le_of_ble_eq_true rfl, Nat.le_of_ble_eq_true rfl⟩) ⟨kBlind, va_recv hK hPc (ci := 10) (q0 := 0) rfl rfl, fun U hU hW => ⟨rfl, by rw [hU], hN.warm hW, hE.pass hS hFc hW hU, by rw [hU]; exact hPc, va_K.moved hW.alike hK, hDc⟩⟩ rfl rfl hl.1 rfl (lv_room (Nat.le_of_ble_eq_true rfl)) dX11_tore_92 ⟨Nat.le_of_ble_eq_true rfl, Nat.le_of_ble_eq_true rfl⟩) (fun r1311 u H locs hw hP hD hS => ?_)
            obtain ⟨g1312, g1313⟩ := u
            have hP : va_P D vwCl [(h, oX11 0 aw ai ab ac hi re aP ta po en be de fa a5 sp av an ak ne aW aC ag aT aN aF), (aw, .inl (cI, 2179, .inl fw)), (aT, .inl (cJ, 550, .inr (.inl g1312))), (aN, .inl (cJ, 550, .inr (.inl g1313)))] H := hP
            have hD : va_D A [(h, oX11 0 aw ai ab ac hi re aP ta po en be de fa a5 sp av an ak ne aW aC ag aT aN aF), (aw, .inl (cI, 2179, .inl fw)), (aT, .inl (cJ, 550, .inr (.inl g1312))), (aN, .inl (cJ, 550, .inr (.inl g1313)))] := hD
            refine lv_lstore (lv' := [(9, .long r1311), (8, .int y1300), (6, .long y1301), (4, .long r695), (0, .ref h), (1, .int a1), (2, .int b1), (3, .int c1)]) hx hb dX11_tore_95 hl (by decide) rfl (fun ls hl => ?_)
            refine lv_lload hx hb dX11_tore_97 (lv_at hl 2 rfl) ?_
            refine lv_iload_n hx hb dX11_tore_99 rfl (lv_at hl 7 rfl) ?_
            refine lv_iconst (v := 1) hx hb dX11_tore_100 (by decide) ?_
            refine k_join (hd := 145) (cells2 := 0) (slots2 := 0) (fun (u : Int64 × Int64) => match u with | (z1336, z1337) => [.long z1336, .long z1337]) (fun (u : Int64 × Int64) (H : Heap) (locs : List Loc) (ls : Array Slot) => match u with | (z1336, z1337) => va_P D vwCl [(h, oX11 0 aw ai ab ac hi re aP ta po en be de fa a5 sp av an ak ne aW aC ag aT aN aF), (aw, .inl (cI, 2179, .inl fw)), (aT, .inl (cJ, 550, .inr (.inl g1312))), (aN, .inl (cJ, 550, .inr (.inl g1313)))] H ∧ va_D A [(h, oX11 0 aw ai ab ac hi re aP ta po en be de fa a5 sp av an ak ne aW aC ag aT aN aF), (aw, .inl (cI, 2179, .inl fw)), (aT, .inl (cJ, 550, .inr (.inl g1312))), (aN, .inl (cJ, 550, .inr (.inl g1313)))] ∧ va_S A s.heap H locs ∧ lv_has ls 11 [(9, .long r1311), (8, .int y1300), (6, .long y1301), (4, .long r695), (0, .ref h), (1, .int a1), (2, .int b1), (3, .int c1)]) (fun u H locs ls hI => ?_) (fun hJ145 => ?_)
            · skip
              clear hP hD hS hl
              obtain ⟨z1336, z1337⟩ := u
              obtain ⟨hP, hD, hS, hl⟩ := hI
              have hP : va_P D vwCl [(h, oX11 0 aw ai ab ac hi re aP ta po en be de fa a5 sp av an ak ne aW aC ag aT aN aF), (aw, .inl (cI, 2179, .inl fw)), (aT, .inl (cJ, 550, .inr (.inl g1312))), (aN, .inl (cJ, 550, .inr (.inl g1313)))] H := hP
              have hD : va_D A [(h, oX11 0 aw ai ab ac hi re aP ta po en be de fa a5 sp av an ak ne aW aC ag aT aN aF), (aw, .inl (cI, 2179, .inl fw)), (aT, .inl (cJ, 550, .inr (.inl g1312))), (aN, .inl (cJ, 550, .inr (.inl g1313)))] := hD
              have hl : lv_has ls 11 [(9, .long r1311), (8, .int y1300), (6, .long y1301), (4, .long r695), (0, .ref h), (1, .int a1), (2, .int b1), (3, .int c1)] := hl
              show W _ _ _ _ _ _ _ _ _ _ _ _ _ _ _ (F0 m 145 ls [.long z1336, .long z1337])
              refine lv_lor hx hb dX11_tore_145 ?_
              refine lv_topl (fun x1338 ex1338 => ?_)
              clear ex1338
              refine lv_lstore (lv' := [(6, .long x1338), (9, .long r1311), (8, .int y1300), (4, .long r695), (0, .ref h), (1, .int a1), (2, .int b1), (3, .int c1)]) hx hb dX11_tore_146 hl (by decide) rfl (fun ls hl => ?_)
              obtain ⟨x1339, ex1339⟩ : ∃ y : Int32, y = y1300 + 1 := ⟨_, rfl⟩
              refine lv_iinc (v := x1339) (lv' := [(8, .int x1339), (6, .long x1338), (9, .long r1311), (4, .long r695), (0, .ref h), (1, .int a1), (2, .int b1), (3, .int c1)]) hx hb dX11_tore_148 hl (k := 2) rfl (by rw [ex1339]; rfl) (by decide) rfl (fun ls hl => ?_)
              have k1340 : Rg x1339 1 10 := rg_add ex1339 k1309 (rg_lit (n := 1) (by decide)) (by decide)
              refine lv_goto (tgt := 78) hx hb dX11_tore_151 (by decide) ?_
              exact ih1304 (x1339, x1338, g1312, g1313) _ _ _ (by show (10 - (x1339).toInt).toNat < (10 - (y1300).toInt).toNat; exact mu_up ex1339 k1309 k1340 (by decide)) ⟨(rg_w k1340 (by decide)), hP.sub (ws' := [(h, oX11 0 aw ai ab ac hi re aP ta po en be de fa a5 sp av an ak ne aW aC ag aT aN aF), (aw, .inl (cI, 2179, .inl fw)), (aT, .inl (cJ, 550, .inr (.inl g1312))), (aN, .inl (cJ, 550, .inr (.inl g1313)))]) [0, 1, 2, 3] rfl, hD.sub (ws' := [(h, oX11 0 aw ai ab ac hi re aP ta po en be de fa a5 sp av an ak ne aW aC ag aT aN aF), (aw, .inl (cI, 2179, .inl fw)), (aT, .inl (cJ, 550, .inr (.inl g1312))), (aN, .inl (cJ, 550, .inr (.inl g1313)))]) [0, 1, 2, 3] (by decide) rfl, hS, lv_sub (l' := [(8, .int x1339), (6, .long x1338), (4, .long r695), (0, .ref h), (1, .int a1), (2, .int b1), (3, .int c1)]) hl [0, 1, 3, 4, 5, 6, 7] rfl⟩
            refine lv_icmp_ne (tgt := 129) hx hb dX11_tore_101 (by decide) (fun c1341 => ?_) (fun c1341 => ?_)
            · skip
              have k1342 : Rg c1 2 2 := rg_n1 (neI c1341) k699 (rg_lit (n := 1) (by decide)) (by decide)
              refine lv_lload hx hb dX11_tore_129 (lv_at hl 0 rfl) ?_
              refine lv_lload hx hb dX11_tore_131 (lv_at hl 3 rfl) ?_
              refine W.lcmp hx hb dX11_tore_133 ?_
              refine lv_topi (fun x1343 ex1343 => ?_)
              have k1344 : Rg x1343 (-1) 1 := rg_cmp ex1343
              clear ex1343
              refine lv_if_ge (tgt := 144) hx hb dX11_tore_134 (by decide) (fun c1345 => ?_) (fun c1345 => ?_)
              · skip
                have k1346 : Rg x1343 0 1 := rg_e2 (leI c1345) (rg_lit (n := 0) (by decide)) k1344 (by decide)
                refine lv_lconst (v := 0) hx hb dX11_tore_144 (by decide) ?_
                exact hJ145 ((0 : Int64), y1301) _ _ _ ⟨hP.sub (ws' := [(h, oX11 0 aw ai ab ac hi re aP ta po en be de fa a5 sp av an ak ne aW aC ag aT aN aF), (aw, .inl (cI, 2179, .inl fw)), (aT, .inl (cJ, 550, .inr (.inl g1312))), (aN, .inl (cJ, 550, .inr (.inl g1313)))]) [0, 1, 2, 3] rfl, hD.sub (ws' := [(h, oX11 0 aw ai ab ac hi re aP ta po en be de fa a5 sp av an ak ne aW aC ag aT aN aF), (aw, .inl (cI, 2179, .inl fw)), (aT, .inl (cJ, 550, .inr (.inl g1312))), (aN, .inl (cJ, 550, .inr (.inl g1313)))]) [0, 1, 2, 3] (by decide) rfl, hS, lv_sub (l' := [(9, .long r1311), (8, .int y1300), (6, .long y1301), (4, .long r695), (0, .ref h), (1, .int a1), (2, .int b1), (3, .int c1)]) hl [0, 1, 2, 3, 4, 5, 6, 7] rfl⟩
              · skip
                have k1347 : Rg x1343 (-1) (-1) := rg_l1 (nleI c1345) k1344 (rg_lit (n := 0) (by decide)) (by decide)
                refine lv_lconst (v := 1) hx hb dX11_tore_137 (by decide) ?_
                refine lv_iload hx hb dX11_tore_138 (lv_at hl 1 rfl) ?_
                refine lv_lshl hx hb dX11_tore_140 rfl ?_
                refine lv_topl (fun x1348 ex1348 => ?_)
                clear ex1348
                refine lv_goto (tgt := 145) hx hb dX11_tore_141 (by decide) ?_
                exact hJ145 (x1348, y1301) _ _ _ ⟨hP.sub (ws' := [(h, oX11 0 aw ai ab ac hi re aP ta po en be de fa a5 sp av an ak ne aW aC ag aT aN aF), (aw, .inl (cI, 2179, .inl fw)), (aT, .inl (cJ, 550, .inr (.inl g1312))), (aN, .inl (cJ, 550, .inr (.inl g1313)))]) [0, 1, 2, 3] rfl, hD.sub (ws' := [(h, oX11 0 aw ai ab ac hi re aP ta po en be de fa a5 sp av an ak ne aW aC ag aT aN aF), (aw, .inl (cI, 2179, .inl fw)), (aT, .inl (cJ, 550, .inr (.inl g1312))), (aN, .inl (cJ, 550, .inr (.inl g1313)))]) [0, 1, 2, 3] (by decide) rfl, hS, lv_sub (l' := [(9, .long r1311), (8, .int y1300), (6, .long y1301), (4, .long r695), (0, .ref h), (1, .int a1), (2, .int b1), (3, .int c1)]) hl [0, 1, 2, 3, 4, 5, 6, 7] rfl⟩
            · skip
              have k1349 : Rg c1 1 1 := rg_q1 (eqI c1341) k699 (rg_lit (n := 1) (by decide)) (by decide)
              refine lv_lload hx hb dX11_tore_104 (lv_at hl 3 rfl) ?_
              refine lv_lconst (v := 0) hx hb dX11_tore_106 (by decide) ?_
              refine W.lcmp hx hb dX11_tore_107 ?_
              refine lv_topi (fun x1350 ex1350 => ?_)
              have k1351 : Rg x1350 (-1) 1 := rg_cmp ex1350
              clear ex1350
              refine k_join (hd := 125) (cells2 := 0) (slots2 := 0) (fun (z1361 : Int64) => [.long z1361]) (fun (z1361 : Int64) (H : Heap) (locs : List Loc) (ls : Array Slot) => va_P D vwCl [(h, oX11 0 aw ai ab ac hi re aP ta po en be de fa a5 sp av an ak ne aW aC ag aT aN aF), (aw, .inl (cI, 2179, .inl fw)), (aT, .inl (cJ, 550, .inr (.inl g1312))), (aN, .inl (cJ, 550, .inr (.inl g1313)))] H ∧ va_D A [(h, oX11 0 aw ai ab ac hi re aP ta po en be de fa a5 sp av an ak ne aW aC ag aT aN aF), (aw, .inl (cI, 2179, .inl fw)), (aT, .inl (cJ, 550, .inr (.inl g1312))), (aN, .inl (cJ, 550, .inr (.inl g1313)))] ∧ va_S A s.heap H locs ∧ lv_has ls 11 [(9, .long r1311), (8, .int y1300), (6, .long y1301), (4, .long r695), (0, .ref h), (1, .int a1), (2, .int b1), (3, .int c1)]) (fun u H locs ls hI => ?_) (fun hJ125 => ?_)
              · skip
                clear hP hD hS hl
                obtain ⟨z1361, rfl⟩ : ∃ z, z = u := ⟨_, rfl⟩
                obtain ⟨hP, hD, hS, hl⟩ := hI
                have hP : va_P D vwCl [(h, oX11 0 aw ai ab ac hi re aP ta po en be de fa a5 sp av an ak ne aW aC ag aT aN aF), (aw, .inl (cI, 2179, .inl fw)), (aT, .inl (cJ, 550, .inr (.inl g1312))), (aN, .inl (cJ, 550, .inr (.inl g1313)))] H := hP
                have hD : va_D A [(h, oX11 0 aw ai ab ac hi re aP ta po en be de fa a5 sp av an ak ne aW aC ag aT aN aF), (aw, .inl (cI, 2179, .inl fw)), (aT, .inl (cJ, 550, .inr (.inl g1312))), (aN, .inl (cJ, 550, .inr (.inl g1313)))] := hD
                have hl : lv_has ls 11 [(9, .long r1311), (8, .int y1300), (6, .long y1301), (4, .long r695), (0, .ref h), (1, .int a1), (2, .int b1), (3, .int c1)] := hl
                show W _ _ _ _ _ _ _ _ _ _ _ _ _ _ _ (F0 m 125 ls [.long z1361])
                refine lv_lconst (v := 0) hx hb dX11_tore_125 (by decide) ?_
                refine lv_goto (tgt := 145) hx hb dX11_tore_126 (by decide) ?_
                exact hJ145 ((0 : Int64), z1361) _ _ _ ⟨hP.sub (ws' := [(h, oX11 0 aw ai ab ac hi re aP ta po en be de fa a5 sp av an ak ne aW aC ag aT aN aF), (aw, .inl (cI, 2179, .inl fw)), (aT, .inl (cJ, 550, .inr (.inl g1312))), (aN, .inl (cJ, 550, .inr (.inl g1313)))]) [0, 1, 2, 3] rfl, hD.sub (ws' := [(h, oX11 0 aw ai ab ac hi re aP ta po en be de fa a5 sp av an ak ne aW aC ag aT aN aF), (aw, .inl (cI, 2179, .inl fw)), (aT, .inl (cJ, 550, .inr (.inl g1312))), (aN, .inl (cJ, 550, .inr (.inl g1313)))]) [0, 1, 2, 3] (by decide) rfl, hS, lv_sub (l' := [(9, .long r1311), (8, .int y1300), (6, .long y1301), (4, .long r695), (0, .ref h), (1, .int a1), (2, .int b1), (3, .int c1)]) hl [0, 1, 2, 3, 4, 5, 6, 7] rfl⟩
              refine lv_if_le (tgt := 125) hx hb dX11_tore_108 (by decide) (fun c1362 => ?_) (fun c1362 => ?_)
              · skip
                have k1363 : Rg x1350 (-1) 0 := rg_e1 (leI c1362) k1351 (rg_lit (n := 0) (by decide)) (by decide)
                exact hJ125 (y1301) _ _ _ ⟨hP.sub (ws' := [(h, oX11 0 aw ai ab ac hi re aP ta po en be de fa a5 sp av an ak ne aW aC ag aT aN aF), (aw, .inl (cI, 2179, .inl fw)), (aT, .inl (cJ, 550, .inr (.inl g1312))), (aN, .inl (cJ, 550, .inr (.inl g1313)))]) [0, 1, 2, 3] rfl, hD.sub (ws' := [(h, oX11 0 aw ai ab ac hi re aP ta po en be de fa a5 sp av an ak ne aW aC ag aT aN aF), (aw, .inl (cI, 2179, .inl fw)), (aT, .inl (cJ, 550, .inr (.inl g1312))), (aN, .inl (cJ, 550, .inr (.inl g1313)))]) [0, 1, 2, 3] (by decide) rfl, hS, lv_sub (l' := [(9, .long r1311), (8, .int y1300), (6, .long y1301), (4, .long r695), (0, .ref h), (1, .int a1), (2, .int b1), (3, .int c1)]) hl [0, 1, 2, 3, 4, 5, 6, 7] rfl⟩
              · skip
                have k1364 : Rg x1350 1 1 := rg_l2 (nleI c1362) (rg_lit (n := 0) (by decide)) k1351 (by decide)
                refine lv_lload hx hb dX11_tore_111 (lv_at hl 0 rfl) ?_
                refine lv_lconst (v := 0) hx hb dX11_tore_113 (by decide) ?_
                refine W.lcmp hx hb dX11_tore_114 ?_
                refine lv_topi (fun x1365 ex1365 => ?_)
                have k1366 : Rg x1365 (-1) 1 := rg_cmp ex1365
                clear ex1365
                refine lv_if_ne (tgt := 125) hx hb dX11_tore_115 (by decide) (fun c1367 => ?_) (fun c1367 => ?_)
                · skip
                  exact hJ125 (y1301) _ _ _ ⟨hP.sub (ws' := [(h, oX11 0 aw ai ab ac hi re aP ta po en be de fa a5 sp av an ak ne aW aC ag aT aN aF), (aw, .inl (cI, 2179, .inl fw)), (aT, .inl (cJ, 550, .inr (.inl g1312))), (aN, .inl (cJ, 550, .inr (.inl g1313)))]) [0, 1, 2, 3] rfl, hD.sub (ws' := [(h, oX11 0 aw ai ab ac hi re aP ta po en be de fa a5 sp av an ak ne aW aC ag aT aN aF), (aw, .inl (cI, 2179, .inl fw)), (aT, .inl (cJ, 550, .inr (.inl g1312))), (aN, .inl (cJ, 550, .inr (.inl g1313)))]) [0, 1, 2, 3] (by decide) rfl, hS, lv_sub (l' := [(9, .long r1311), (8, .int y1300), (6, .long y1301), (4, .long r695), (0, .ref h), (1, .int a1), (2, .int b1), (3, .int c1)]) hl [0, 1, 2, 3, 4, 5, 6, 7] rfl⟩
                · skip
                  have k1368 : Rg x1365 0 0 := rg_q1 (eqI c1367) k1366 (rg_lit (n := 0) (by decide)) (by decide)
                  refine lv_lconst (v := 1) hx hb dX11_tore_118 (by decide) ?_
                  refine lv_iload hx hb dX11_tore_119 (lv_at hl 1 rfl) ?_
                  refine lv_lshl hx hb dX11_tore_121 rfl ?_
                  refine lv_topl (fun x1369 ex1369 => ?_)
                  clear ex1369
                  refine lv_goto (tgt := 145) hx hb dX11_tore_122 (by decide) ?_
                  exact hJ145 (x1369, y1301) _ _ _ ⟨hP.sub (ws' := [(h, oX11 0 aw ai ab ac hi re aP ta po en be de fa a5 sp av an ak ne aW aC ag aT aN aF), (aw, .inl (cI, 2179, .inl fw)), (aT, .inl (cJ, 550, .inr (.inl g1312))), (aN, .inl (cJ, 550, .inr (.inl g1313)))]) [0, 1, 2, 3] rfl, hD.sub (ws' := [(h, oX11 0 aw ai ab ac hi re aP ta po en be de fa a5 sp av an ak ne aW aC ag aT aN aF), (aw, .inl (cI, 2179, .inl fw)), (aT, .inl (cJ, 550, .inr (.inl g1312))), (aN, .inl (cJ, 550, .inr (.inl g1313)))]) [0, 1, 2, 3] (by decide) rfl, hS, lv_sub (l' := [(9, .long r1311), (8, .int y1300), (6, .long y1301), (4, .long r695), (0, .ref h), (1, .int a1), (2, .int b1), (3, .int c1)]) hl [0, 1, 2, 3, 4, 5, 6, 7] rfl⟩
        · skip
          have k1370 : Rg c1 0 0 := rg_q1 (eqI c698) kc2_0 (rg_lit (n := 0) (by decide)) (by decide)
          refine lv_lload hx hb dX11_tore_69 (lv_at hl 0 rfl) ?_
          have hP9 := hP.sub (ws' := [(h, oX11 0 aw ai ab ac hi re aP ta po en be de fa a5 sp av an ak ne aW aC ag aT aN aF), (aw, .inl (cI, 2179, .inl fw)), (aT, .inl (cJ, 550, .inr (.inl g696))), (aN, .inl (cJ, 550, .inr (.inl g697)))]) [0, 1, 2, 3] rfl
          have hD9 := hD.sub (ws' := [(h, oX11 0 aw ai ab ac hi re aP ta po en be de fa a5 sp av an ak ne aW aC ag aT aN aF), (aw, .inl (cI, 2179, .inl fw)), (aT, .inl (cJ, 550, .inr (.inl g696))), (aN, .inl (cJ, 550, .inr (.inl g697)))]) [0, 1, 2, 3] (by decide) rfl
          exact W.lret (v := r695) hx hb hr (fun t ht hW => ⟨⟨r695, ((0 : Int32), g696, g697), rfl, trivial, by rw [ht]; exact hP9, va_K.moved hW.alike hK, hD9⟩, hS.F ht⟩) hS.2.2 dX11_tore_71

