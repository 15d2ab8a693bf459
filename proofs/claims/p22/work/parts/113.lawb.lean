def kwX4_holds : List Cond := .code yX4_holds cX4_holds 9 (some .boolean) :: kG
theorem hdX4_holds : yX4_holds.cls ≠ "java/lang/invoke/MethodHandle" ∧ yX4_holds.cls ≠ "java/lang/invoke/VarHandle" ∧ (parseMethodDescriptor yX4_holds.desc).map (fun d => d.parameters.length) = some 1 := by decide +kernel
theorem gX4_holds_X10_valueAt_n32 : GoodIn kG (kwX10_valueAt) := gK w8_10 gGG
theorem dX4_holds_0 : decode cX4_holds 0 = .ok (.iconst 1, 1) := by decide +kernel
theorem dX4_holds_1 : decode cX4_holds 1 = .ok (.istore_n 2, 1) := by decide +kernel
theorem dX4_holds_2 : decode cX4_holds 2 = .ok (.iconst 0, 1) := by decide +kernel
theorem dX4_holds_3 : decode cX4_holds 3 = .ok (.istore_n 3, 1) := by decide +kernel
theorem dX4_holds_4 : decode cX4_holds 4 = .ok (.iconst 0, 1) := by decide +kernel
theorem dX4_holds_5 : decode cX4_holds 5 = .ok (.istore 4, 2) := by decide +kernel
theorem dX4_holds_7 : decode cX4_holds 7 = .ok (.iload_n 1, 1) := by decide +kernel
theorem dX4_holds_8 : decode cX4_holds 8 = .ok (.ifCond .le 16, 3) := by decide +kernel
theorem dX4_holds_11 : decode cX4_holds 11 = .ok (.aload_n 0, 1) := by decide +kernel
theorem dX4_holds_12 : decode cX4_holds 12 = .ok (.getfield 18, 3) := by decide +kernel
theorem dX4_holds_15 : decode cX4_holds 15 = .ok (.iload_n 1, 1) := by decide +kernel
theorem dX4_holds_16 : decode cX4_holds 16 = .ok (.iconst 1, 1) := by decide +kernel
theorem dX4_holds_17 : decode cX4_holds 17 = .ok (.isub, 1) := by decide +kernel
theorem dX4_holds_18 : decode cX4_holds 18 = .ok (.invokestatic 32, 3) := by decide +kernel
theorem dX4_holds_21 : decode cX4_holds 21 = .ok (.goto 4, 3) := by decide +kernel
theorem dX4_holds_24 : decode cX4_holds 24 = .ok (.iconst 0, 1) := by decide +kernel
theorem dX4_holds_25 : decode cX4_holds 25 = .ok (.istore 5, 2) := by decide +kernel
theorem dX4_holds_27 : decode cX4_holds 27 = .ok (.aload_n 0, 1) := by decide +kernel
theorem dX4_holds_28 : decode cX4_holds 28 = .ok (.getfield 18, 3) := by decide +kernel
theorem dX4_holds_31 : decode cX4_holds 31 = .ok (.iload_n 1, 1) := by decide +kernel
theorem dX4_holds_32 : decode cX4_holds 32 = .ok (.invokestatic 32, 3) := by decide +kernel
theorem dX4_holds_35 : decode cX4_holds 35 = .ok (.aload_n 0, 1) := by decide +kernel
theorem dX4_holds_36 : decode cX4_holds 36 = .ok (.getfield 15, 3) := by decide +kernel
theorem dX4_holds_39 : decode cX4_holds 39 = .ok (.arraylength, 1) := by decide +kernel
theorem dX4_holds_40 : decode cX4_holds 40 = .ok (.invokestatic 36, 3) := by decide +kernel
theorem dX4_holds_43 : decode cX4_holds 43 = .ok (.istore 6, 2) := by decide +kernel
theorem dX4_holds_45 : decode cX4_holds 45 = .ok (.iload 5, 2) := by decide +kernel
theorem dX4_holds_47 : decode cX4_holds 47 = .ok (.iconst 0, 1) := by decide +kernel
theorem dX4_holds_48 : decode cX4_holds 48 = .ok (.invokestatic 42, 3) := by decide +kernel
theorem dX4_holds_51 : decode cX4_holds 51 = .ok (.istore 7, 2) := by decide +kernel
theorem dX4_holds_53 : decode cX4_holds 53 = .ok (.iload 7, 2) := by decide +kernel
theorem dX4_holds_55 : decode cX4_holds 55 = .ok (.iload 6, 2) := by decide +kernel
theorem dX4_holds_57 : decode cX4_holds 57 = .ok (.if_icmp .ge 284, 3) := by decide +kernel
theorem dX4_holds_60 : decode cX4_holds 60 = .ok (.aload_n 0, 1) := by decide +kernel
theorem dX4_holds_61 : decode cX4_holds 61 = .ok (.getfield 15, 3) := by decide +kernel
theorem dX4_holds_64 : decode cX4_holds 64 = .ok (.iload 7, 2) := by decide +kernel
theorem dX4_holds_66 : decode cX4_holds 66 = .ok (.iaload, 1) := by decide +kernel
theorem dX4_holds_67 : decode cX4_holds 67 = .ok (.istore 8, 2) := by decide +kernel
theorem dX4_holds_69 : decode cX4_holds 69 = .ok (.iload 8, 2) := by decide +kernel
theorem dX4_holds_71 : decode cX4_holds 71 = .ok (.tableswitch 233 1005 1033 #[138, 160, 233, 129, 233, 233, 233, 233, 233, 233, 233, 233, 233, 233, 233, 233, 233, 233, 233, 233, 233, 233, 233, 182, 193, 205, 212, 212, 212], 129) := by decide +kernel
theorem dX4_holds_200 : decode cX4_holds 200 = .ok (.iload 4, 2) := by decide +kernel
theorem dX4_holds_202 : decode cX4_holds 202 = .ok (.istore_n 3, 1) := by decide +kernel
theorem dX4_holds_203 : decode cX4_holds 203 = .ok (.iconst 0, 1) := by decide +kernel
theorem dX4_holds_204 : decode cX4_holds 204 = .ok (.istore 4, 2) := by decide +kernel
theorem dX4_holds_206 : decode cX4_holds 206 = .ok (.goto 129, 3) := by decide +kernel
theorem dX4_holds_209 : decode cX4_holds 209 = .ok (.iload_n 2, 1) := by decide +kernel
theorem dX4_holds_210 : decode cX4_holds 210 = .ok (.iconst 1, 1) := by decide +kernel
theorem dX4_holds_211 : decode cX4_holds 211 = .ok (.ishl, 1) := by decide +kernel
theorem dX4_holds_212 : decode cX4_holds 212 = .ok (.iload_n 3, 1) := by decide +kernel
theorem dX4_holds_213 : decode cX4_holds 213 = .ok (.iload 4, 2) := by decide +kernel
theorem dX4_holds_215 : decode cX4_holds 215 = .ok (.if_icmp .ge 7, 3) := by decide +kernel
theorem dX4_holds_218 : decode cX4_holds 218 = .ok (.iconst 1, 1) := by decide +kernel
theorem dX4_holds_219 : decode cX4_holds 219 = .ok (.goto 4, 3) := by decide +kernel
theorem dX4_holds_222 : decode cX4_holds 222 = .ok (.iconst 0, 1) := by decide +kernel
theorem dX4_holds_223 : decode cX4_holds 223 = .ok (.ior, 1) := by decide +kernel
theorem dX4_holds_224 : decode cX4_holds 224 = .ok (.istore_n 2, 1) := by decide +kernel
theorem dX4_holds_225 : decode cX4_holds 225 = .ok (.iconst 0, 1) := by decide +kernel
theorem dX4_holds_226 : decode cX4_holds 226 = .ok (.istore 4, 2) := by decide +kernel
theorem dX4_holds_228 : decode cX4_holds 228 = .ok (.goto 107, 3) := by decide +kernel
theorem dX4_holds_231 : decode cX4_holds 231 = .ok (.iload_n 2, 1) := by decide +kernel
theorem dX4_holds_232 : decode cX4_holds 232 = .ok (.iconst 1, 1) := by decide +kernel
theorem dX4_holds_233 : decode cX4_holds 233 = .ok (.ishl, 1) := by decide +kernel
theorem dX4_holds_234 : decode cX4_holds 234 = .ok (.iload_n 3, 1) := by decide +kernel
theorem dX4_holds_235 : decode cX4_holds 235 = .ok (.iload 4, 2) := by decide +kernel
theorem dX4_holds_237 : decode cX4_holds 237 = .ok (.if_icmp .le 7, 3) := by decide +kernel
theorem dX4_holds_240 : decode cX4_holds 240 = .ok (.iconst 1, 1) := by decide +kernel
theorem dX4_holds_241 : decode cX4_holds 241 = .ok (.goto 4, 3) := by decide +kernel
theorem dX4_holds_244 : decode cX4_holds 244 = .ok (.iconst 0, 1) := by decide +kernel
theorem dX4_holds_245 : decode cX4_holds 245 = .ok (.ior, 1) := by decide +kernel
theorem dX4_holds_246 : decode cX4_holds 246 = .ok (.istore_n 2, 1) := by decide +kernel
theorem dX4_holds_247 : decode cX4_holds 247 = .ok (.iconst 0, 1) := by decide +kernel
theorem dX4_holds_248 : decode cX4_holds 248 = .ok (.istore 4, 2) := by decide +kernel
theorem dX4_holds_250 : decode cX4_holds 250 = .ok (.goto 85, 3) := by decide +kernel
theorem dX4_holds_253 : decode cX4_holds 253 = .ok (.iload_n 2, 1) := by decide +kernel
theorem dX4_holds_254 : decode cX4_holds 254 = .ok (.iconst 1, 1) := by decide +kernel
theorem dX4_holds_255 : decode cX4_holds 255 = .ok (.iushr, 1) := by decide +kernel
theorem dX4_holds_256 : decode cX4_holds 256 = .ok (.iload_n 2, 1) := by decide +kernel
theorem dX4_holds_257 : decode cX4_holds 257 = .ok (.iconst 1, 1) := by decide +kernel
theorem dX4_holds_258 : decode cX4_holds 258 = .ok (.iand, 1) := by decide +kernel
theorem dX4_holds_259 : decode cX4_holds 259 = .ok (.ior, 1) := by decide +kernel
theorem dX4_holds_260 : decode cX4_holds 260 = .ok (.istore_n 2, 1) := by decide +kernel
theorem dX4_holds_261 : decode cX4_holds 261 = .ok (.goto 74, 3) := by decide +kernel
theorem dX4_holds_264 : decode cX4_holds 264 = .ok (.iload_n 2, 1) := by decide +kernel
theorem dX4_holds_265 : decode cX4_holds 265 = .ok (.iconst 1, 1) := by decide +kernel
theorem dX4_holds_266 : decode cX4_holds 266 = .ok (.iushr, 1) := by decide +kernel
theorem dX4_holds_267 : decode cX4_holds 267 = .ok (.iload_n 2, 1) := by decide +kernel
theorem dX4_holds_268 : decode cX4_holds 268 = .ok (.bipush (-2), 2) := by decide +kernel
theorem dX4_holds_270 : decode cX4_holds 270 = .ok (.ior, 1) := by decide +kernel
theorem dX4_holds_271 : decode cX4_holds 271 = .ok (.iand, 1) := by decide +kernel
theorem dX4_holds_272 : decode cX4_holds 272 = .ok (.istore_n 2, 1) := by decide +kernel
theorem dX4_holds_273 : decode cX4_holds 273 = .ok (.goto 62, 3) := by decide +kernel
theorem dX4_holds_276 : decode cX4_holds 276 = .ok (.iload_n 2, 1) := by decide +kernel
theorem dX4_holds_277 : decode cX4_holds 277 = .ok (.iconst 1, 1) := by decide +kernel
theorem dX4_holds_278 : decode cX4_holds 278 = .ok (.ixor, 1) := by decide +kernel
theorem dX4_holds_279 : decode cX4_holds 279 = .ok (.istore_n 2, 1) := by decide +kernel
theorem dX4_holds_280 : decode cX4_holds 280 = .ok (.goto 55, 3) := by decide +kernel
theorem dX4_holds_283 : decode cX4_holds 283 = .ok (.iload_n 2, 1) := by decide +kernel
theorem dX4_holds_284 : decode cX4_holds 284 = .ok (.iconst 1, 1) := by decide +kernel
theorem dX4_holds_285 : decode cX4_holds 285 = .ok (.ishl, 1) := by decide +kernel
theorem dX4_holds_286 : decode cX4_holds 286 = .ok (.aload_n 0, 1) := by decide +kernel
theorem dX4_holds_287 : decode cX4_holds 287 = .ok (.getfield 9, 3) := by decide +kernel
theorem dX4_holds_290 : decode cX4_holds 290 = .ok (.iload 8, 2) := by decide +kernel
theorem dX4_holds_292 : decode cX4_holds 292 = .ok (.sipush 1010, 3) := by decide +kernel
theorem dX4_holds_295 : decode cX4_holds 295 = .ok (.isub, 1) := by decide +kernel
theorem dX4_holds_296 : decode cX4_holds 296 = .ok (.invokestatic 32, 3) := by decide +kernel
theorem dX4_holds_299 : decode cX4_holds 299 = .ok (.ior, 1) := by decide +kernel
theorem dX4_holds_300 : decode cX4_holds 300 = .ok (.istore_n 2, 1) := by decide +kernel
theorem dX4_holds_301 : decode cX4_holds 301 = .ok (.goto 34, 3) := by decide +kernel
theorem dX4_holds_304 : decode cX4_holds 304 = .ok (.iload 4, 2) := by decide +kernel
theorem dX4_holds_306 : decode cX4_holds 306 = .ok (.iload 8, 2) := by decide +kernel
theorem dX4_holds_308 : decode cX4_holds 308 = .ok (.sipush 999, 3) := by decide +kernel
theorem dX4_holds_311 : decode cX4_holds 311 = .ok (.if_icmp .gt 8, 3) := by decide +kernel
theorem dX4_holds_314 : decode cX4_holds 314 = .ok (.iload 8, 2) := by decide +kernel
theorem dX4_holds_316 : decode cX4_holds 316 = .ok (.goto 16, 3) := by decide +kernel
theorem dX4_holds_319 : decode cX4_holds 319 = .ok (.aload_n 0, 1) := by decide +kernel
theorem dX4_holds_320 : decode cX4_holds 320 = .ok (.getfield 9, 3) := by decide +kernel
theorem dX4_holds_323 : decode cX4_holds 323 = .ok (.iload 8, 2) := by decide +kernel
theorem dX4_holds_325 : decode cX4_holds 325 = .ok (.sipush 1010, 3) := by decide +kernel
theorem dX4_holds_328 : decode cX4_holds 328 = .ok (.isub, 1) := by decide +kernel
theorem dX4_holds_329 : decode cX4_holds 329 = .ok (.invokestatic 32, 3) := by decide +kernel
theorem dX4_holds_332 : decode cX4_holds 332 = .ok (.iadd, 1) := by decide +kernel
theorem dX4_holds_333 : decode cX4_holds 333 = .ok (.istore 4, 2) := by decide +kernel
theorem dX4_holds_335 : decode cX4_holds 335 = .ok (.iinc 7 1, 3) := by decide +kernel
theorem dX4_holds_338 : decode cX4_holds 338 = .ok (.goto (-285), 3) := by decide +kernel
theorem dX4_holds_341 : decode cX4_holds 341 = .ok (.iload_n 2, 1) := by decide +kernel
theorem dX4_holds_342 : decode cX4_holds 342 = .ok (.iconst 1, 1) := by decide +kernel
theorem dX4_holds_343 : decode cX4_holds 343 = .ok (.iand, 1) := by decide +kernel
theorem dX4_holds_344 : decode cX4_holds 344 = .ok (.ifCond .eq 7, 3) := by decide +kernel
theorem dX4_holds_347 : decode cX4_holds 347 = .ok (.iconst 1, 1) := by decide +kernel
theorem dX4_holds_348 : decode cX4_holds 348 = .ok (.goto 4, 3) := by decide +kernel
theorem dX4_holds_351 : decode cX4_holds 351 = .ok (.iconst 0, 1) := by decide +kernel
theorem dX4_holds_352 : decode cX4_holds 352 = .ok (.ireturn, 1) := by decide +kernel
set_option maxHeartbeats 4000000 in
set_option maxRecDepth 100000 in
/-- Law.holds -/
theorem z_Law_holds (l : Launch) (D : va_G) (cI cJ cB cC : ClassId) (l0 : Nat) (b1 : Nat) (b2 : Nat) (b3 : Nat) (b4 : Nat) (N1 : Nat) (N2 : Nat) (N3 : Nat) (e1 : Nat → Int32) (e2 : Nat → Int32) (e3 : Nat → Int32) (e4 : Nat → Int32) (a1 : Int32) (sz : Nat)  : Met l yX4_holds kwX4_holds ({ frames := 1, cells := 0, slots := 0, locals := 21 } : Room) (kPre D (kT cI cJ cB cC) sz [(l0, oX4 b1 b2 b3 b4), (b1, kcI cI N1 e1), (b2, kcI cI N2 e2), (b3, kcI cI N3 e3), (b4, kcI cI 28 e4)] [.ref l0, .int a1]) (va_Qi (fun (r : Int32) (_ : Unit) => F_z_Law_holds N1 N2 (gT e1) (gT e2) (gT e4) (a1 : Int32).toInt = ((r : Int32).toInt) ∧ ((r = 0) ∨ (r = 1))) (fun (_ : Unit) (t : State) => kB D (kT cI cJ cB cC) (va_A [(l0, oX4 b1 b2 b3 b4), (b1, kcI cI N1 e1), (b2, kcI cI N2 e2), (b3, kcI cI N3 e3), (b4, kcI cI 28 e4)] sz) [(l0, oX4 b1 b2 b3 b4), (b1, kcI cI N1 e1), (b2, kcI cI N2 e2), (b3, kcI cI N3 e3), (b4, kcI cI 28 e4)] t) (va_A [(l0, oX4 b1 b2 b3 b4), (b1, kcI cI N1 e1), (b2, kcI cI N2 e2), (b3, kcI cI N3 e3), (b4, kcI cI 28 e4)] sz)) 0 0 (va_A [(l0, oX4 b1 b2 b3 b4), (b1, kcI cI N1 e1), (b2, kcI cI N2 e2), (b3, kcI cI N3 e3), (b4, kcI cI 28 e4)] sz) := by
  refine Met.ofW (cc := cX4_holds) (maxL := 9) (ret := (some .boolean)) (by decide) rfl ?_
  intro p e s m args below meth c s₁ B hml hv
  obtain ⟨rfl, hsz, hN, hE, hP, hK, hD0⟩ := hv
  have hx := B.exec
  have hb := B.bytes
  have hr := B.returns
  have hts := fun (w : Cond) (h : w ∈ kG) => atoms_spec (ws := kwX4_holds) B.pre w (List.mem_cons_of_mem _ h)
  have hown : s.vm.findClass RX4 = some m.cls := findClass_of_methodNamed B.named
  subst hsz
  have hD := hD0.self (sz := s.heap.size)
  generalize hAe : va_A [(l0, oX4 b1 b2 b3 b4), (b1, kcI cI N1 e1), (b2, kcI cI N2 e2), (b3, kcI cI N3 e3), (b4, kcI cI 28 e4)] s.heap.size = A at hD hE ⊢
  have hA : ∀ q : Nat, s.heap.size ≤ q → A q := fun q h => by rw [← hAe]; exact Or.inr h
  have hl := lv_entry ([.ref l0, .int a1]) (n := 9) (Nat.le_of_ble_eq_true rfl)
  rw [lg_entry_eq]
  generalize (lg_sl ([.ref l0, .int a1]) ++ List.replicate (9 - (lg_sl ([.ref l0, .int a1])).length) Slot.unset).toArray = ls at hl ⊢
  have hl : lv_has ls 9 [(0, .ref l0), (1, .int a1)] := hl
  obtain ⟨H, hH0⟩ : ∃ H, H = s.heap := ⟨_, rfl⟩
  have hS : va_S A s.heap H [] := by rw [hH0]; exact va_S.rf
  have hP : va_P D vwCl [(l0, oX4 b1 b2 b3 b4), (b1, kcI cI N1 e1), (b2, kcI cI N2 e2), (b3, kcI cI N3 e3), (b4, kcI cI 28 e4)] H := by rw [hH0]; exact hP
  refine kHeap hH0 ?_
  clear hH0
  refine lv_iconst (v := 1) hx hb dX4_holds_0 (by decide) ?_
  refine lv_istore_n (lv' := [(2, .int 1), (0, .ref l0), (1, .int a1)]) hx hb dX4_holds_1 rfl hl (by decide) rfl (fun ls hl => ?_)
  refine lv_iconst (v := 0) hx hb dX4_holds_2 (by decide) ?_
  refine lv_istore_n (lv' := [(3, .int 0), (2, .int 1), (0, .ref l0), (1, .int a1)]) hx hb dX4_holds_3 rfl hl (by decide) rfl (fun ls hl => ?_)
  refine lv_iconst (v := 0) hx hb dX4_holds_4 (by decide) ?_
  refine lv_istore (lv' := [(4, .int 0), (3, .int 0), (2, .int 1), (0, .ref l0), (1, .int a1)]) hx hb dX4_holds_5 hl (by decide) rfl (fun ls hl => ?_)
  refine lv_iload_n hx hb dX4_holds_7 rfl (lv_at hl 4 rfl) ?_
  refine k_join (hd := 25) (cells2 := 0) (slots2 := 0) (fun (z9 : Int32) => [.int z9]) (fun (z9 : Int32) (H : Heap) (locs : List Loc) (ls : Array Slot) => (F_z_Law_holds N1 N2 (gT e1) (gT e2) (gT e4) a1.toInt = F_z_Law_holds_j1 N1 N2 (gT e1) (gT e2) (gT e4) a1.toInt z9.toInt) ∧ va_P D vwCl [(l0, oX4 b1 b2 b3 b4), (b1, kcI cI N1 e1), (b2, kcI cI N2 e2), (b3, kcI cI N3 e3), (b4, kcI cI 28 e4)] H ∧ va_D A [(l0, oX4 b1 b2 b3 b4), (b1, kcI cI N1 e1), (b2, kcI cI N2 e2), (b3, kcI cI N3 e3), (b4, kcI cI 28 e4)] ∧ va_S A s.heap H locs ∧ lv_has ls 9 [(4, .int 0), (3, .int 0), (2, .int 1), (0, .ref l0), (1, .int a1)]) (fun u H locs ls hI => ?_) (fun hJ25 => ?_)
  · skip
    clear hP hD hS hl
    obtain ⟨z9, rfl⟩ : ∃ z, z = u := ⟨_, rfl⟩
    obtain ⟨hF1, hP, hD, hS, hl⟩ := hI
    have hP : va_P D vwCl [(l0, oX4 b1 b2 b3 b4), (b1, kcI cI N1 e1), (b2, kcI cI N2 e2), (b3, kcI cI N3 e3), (b4, kcI cI 28 e4)] H := hP
    have hD : va_D A [(l0, oX4 b1 b2 b3 b4), (b1, kcI cI N1 e1), (b2, kcI cI N2 e2), (b3, kcI cI N3 e3), (b4, kcI cI 28 e4)] := hD
    have hl : lv_has ls 9 [(4, .int 0), (3, .int 0), (2, .int 1), (0, .ref l0), (1, .int a1)] := hl
    show W _ _ _ _ _ _ _ _ _ _ _ _ _ _ _ (F0 m 25 ls [.int z9])
    refine lv_istore (lv' := [(5, .int z9), (4, .int 0), (3, .int 0), (2, .int 1), (0, .ref l0), (1, .int a1)]) hx hb dX4_holds_25 hl (by decide) rfl (fun ls hl => ?_)
    refine lv_aload_n hx hb dX4_holds_27 rfl (lv_at hl 4 rfl) ?_
    refine va_get (D := D) (ci := 4) (v := .ref b2) (C := RX4) (T := TX4) (N := 4) hx hb hts iG_X4 hown hK hP 0 rfl rfl 1 (by decide) (hts _ w25_5) (fun _ h9 => h9) rfl dX4_holds_28 ?_
    refine lv_iload_n hx hb dX4_holds_31 rfl (lv_at hl 5 rfl) ?_
    refine kpurei (wc := [(b2, kcI cI N2 e2)]) hP hD hS hA [2] rfl (by decide) (fun hPc hDc hFc => va_runSN (As := [.ref b2, .int a1]) (rest := []) ⟨hx, hb, hml, hown, hts⟩ (z_valueAt l D cI cJ cB cC b2 N2 e2 a1 H.size) ⟨va_cnB 2 hts gX4_holds_X10_valueAt_n32 rfl rfl rfl (nM_24 hN) (hts _ w0_2) hdX10_valueAt ⟨Nat.le_of_ble_eq_true rfl, Nat.le_of_ble_eq_true rfl⟩, hts _ w8_9, trivial⟩ ⟨kBlind, fun U hU hW => ⟨rfl, by rw [hU], hN.warm hW, hE.pass hS hFc hW hU, by rw [hU]; exact hPc, va_K.moved hW.alike hK, hDc⟩⟩ rfl rfl hl.1 rfl (lv_room (Nat.le_of_ble_eq_true rfl)) dX4_holds_32 ⟨Nat.le_of_ble_eq_true rfl, Nat.le_of_ble_eq_true rfl⟩) (fun r10 u H locs hw hP hS => ?_)
    have k11 := hw
    refine lv_aload_n hx hb dX4_holds_35 rfl (lv_at hl 4 rfl) ?_
    refine va_get (D := D) (ci := 4) (v := .ref b1) (C := RX4) (T := TX4) (N := 4) hx hb hts iG_X4 hown hK hP 0 rfl rfl 0 (by decide) (hts _ w25_4) (fun _ h9 => h9) rfl dX4_holds_36 ?_
    refine va_alen (v := nI N1) hx hb hK hP 1 0 rfl rfl rfl dX4_holds_39 ?_
    refine va_mmin hx hb (by rw [hml]; exact hl.1.symm) hown (hts _ w30_1) (hts _ w24_21) (hts _ w8_7) (hts _ w24_22) (Nat.le_of_ble_eq_true rfl) (Nat.le_of_ble_eq_true rfl) (Nat.le_of_ble_eq_true rfl) (Nat.le_of_ble_eq_true rfl) dX4_holds_40 ?_
    refine lv_topi (fun x12 ex12 => ?_)
    refine lv_istore (lv' := [(6, .int x12), (5, .int z9), (4, .int 0), (3, .int 0), (2, .int 1), (0, .ref l0), (1, .int a1)]) hx hb dX4_holds_43 hl (by decide) rfl (fun ls hl => ?_)
    refine lv_iload hx hb dX4_holds_45 (lv_at hl 1 rfl) ?_
    refine lv_iconst (v := 0) hx hb dX4_holds_47 (by decide) ?_
    refine va_mmax hx hb (by rw [hml]; exact hl.1.symm) hown (hts _ w30_2) (hts _ w8_6) (hts _ w8_7) (hts _ w8_8) (Nat.le_of_ble_eq_true rfl) (Nat.le_of_ble_eq_true rfl) (Nat.le_of_ble_eq_true rfl) (Nat.le_of_ble_eq_true rfl) dX4_holds_48 ?_
    refine lv_topi (fun x13 ex13 => ?_)
    have k14 : Rg x13 0 2147483647 := rg_max ex13 (rg_any z9) (rg_lit (n := 0) (by decide)) (by decide)
    refine lv_istore (lv' := [(7, .int x13), (6, .int x12), (5, .int z9), (4, .int 0), (3, .int 0), (2, .int 1), (0, .ref l0), (1, .int a1)]) hx hb dX4_holds_51 hl (by decide) rfl (fun ls hl => ?_)
    refine k_loop (hd := 53) (fun (u : Int32 × Int32 × Int32 × Int32) => match u with | (y1052, y1053, y1054, y1055) => (2147483647 - (y1052).toInt).toNat) (fun (u : Int32 × Int32 × Int32 × Int32) (H : Heap) (locs : List Loc) (ls : Array Slot) => match u with | (y1052, y1053, y1054, y1055) => (F_z_Law_holds N1 N2 (gT e1) (gT e2) (gT e4) a1.toInt = F_z_Law_holds_l2 (gT e1) (gT e4) x12.toInt (y1052.toInt, y1053.toInt, y1054.toInt, y1055.toInt)) ∧ Rg y1052 0 2147483647 ∧ va_P D vwCl [(l0, oX4 b1 b2 b3 b4), (b1, kcI cI N1 e1), (b2, kcI cI N2 e2), (b3, kcI cI N3 e3), (b4, kcI cI 28 e4)] H ∧ va_D A [(l0, oX4 b1 b2 b3 b4), (b1, kcI cI N1 e1), (b2, kcI cI N2 e2), (b3, kcI cI N3 e3), (b4, kcI cI 28 e4)] ∧ va_S A s.heap H locs ∧ lv_has ls 9 [(7, .int y1052), (6, .int x12), (5, .int z9), (4, .int y1053), (3, .int y1054), (2, .int y1055), (0, .ref l0), (1, .int a1)]) (x13, (0 : Int32), (0 : Int32), (1 : Int32)) ⟨(hF1.trans (kLet_eq (k11).symm (kLet_eq (ke_min ex12) (kLet_eq (ke_max ex13) rfl)))), k14, hP.sub (ws' := [(l0, oX4 b1 b2 b3 b4), (b1, kcI cI N1 e1), (b2, kcI cI N2 e2), (b3, kcI cI N3 e3), (b4, kcI cI 28 e4)]) [0, 1, 2, 3, 4] rfl, hD.sub (ws' := [(l0, oX4 b1 b2 b3 b4), (b1, kcI cI N1 e1), (b2, kcI cI N2 e2), (b3, kcI cI N3 e3), (b4, kcI cI 28 e4)]) [0, 1, 2, 3, 4] (by decide) rfl, hS, lv_sub (l' := [(7, .int x13), (6, .int x12), (5, .int z9), (4, .int 0), (3, .int 0), (2, .int 1), (0, .ref l0), (1, .int a1)]) hl [0, 1, 2, 3, 4, 5, 6, 7] rfl⟩ (fun u H locs ls hI ih1056 => ?_)
    clear hP hD hS hl
    obtain ⟨y1052, y1053, y1054, y1055⟩ := u
    obtain ⟨hF2, hy1052, hP, hD, hS, hl⟩ := hI
    have hP : va_P D vwCl [(l0, oX4 b1 b2 b3 b4), (b1, kcI cI N1 e1), (b2, kcI cI N2 e2), (b3, kcI cI N3 e3), (b4, kcI cI 28 e4)] H := hP
    have hD : va_D A [(l0, oX4 b1 b2 b3 b4), (b1, kcI cI N1 e1), (b2, kcI cI N2 e2), (b3, kcI cI N3 e3), (b4, kcI cI 28 e4)] := hD
    have hl : lv_has ls 9 [(7, .int y1052), (6, .int x12), (5, .int z9), (4, .int y1053), (3, .int y1054), (2, .int y1055), (0, .ref l0), (1, .int a1)] := hl
    refine lv_iload hx hb dX4_holds_53 (lv_at hl 0 rfl) ?_
    refine lv_iload hx hb dX4_holds_55 (lv_at hl 1 rfl) ?_
    refine lv_icmp_ge (tgt := 341) hx hb dX4_holds_57 (by decide) (fun c1057 => ?_) (fun c1057 => ?_)
    · skip
      refine lv_iload_n hx hb dX4_holds_341 rfl (lv_at hl 5 rfl) ?_
      refine lv_iconst (v := 1) hx hb dX4_holds_342 (by decide) ?_
      refine lv_iand hx hb dX4_holds_343 ?_
      refine lv_topi (fun x1058 ex1058 => ?_)
      have k1059 : Rg x1058 0 1 := rg_andr ex1058 (rg_lit (n := 1) (by decide)) (by decide)
      refine lv_if_eq (tgt := 351) hx hb dX4_holds_344 (by decide) (fun c1063 => ?_) (fun c1063 => ?_)
      · skip
        have k1064 : Rg x1058 0 0 := rg_q1 (eqI c1063) k1059 (rg_lit (n := 0) (by decide)) (by decide)
        refine lv_iconst (v := 0) hx hb dX4_holds_351 (by decide) ?_
        have hP9 := hP.sub (ws' := [(l0, oX4 b1 b2 b3 b4), (b1, kcI cI N1 e1), (b2, kcI cI N2 e2), (b3, kcI cI N3 e3), (b4, kcI cI 28 e4)]) [0, 1, 2, 3, 4] rfl
        have hD9 := hD.sub (ws' := [(l0, oX4 b1 b2 b3 b4), (b1, kcI cI N1 e1), (b2, kcI cI N2 e2), (b3, kcI cI N3 e3), (b4, kcI cI 28 e4)]) [0, 1, 2, 3, 4] (by decide) rfl
        exact W.zret (v := 0) hx hb hr (by decide) (fun t ht hW => ⟨⟨0, (), rfl, ⟨(hF2.trans (kIter_out (kC_eq rfl (kC_eq rfl (kC_eq rfl (kif_t (leI c1057) (kLet_eq (ke_and ex1058) (kif_t (eqI c1063) rfl)))))))), (Or.inl rfl)⟩, by rw [ht]; exact hP9, va_K.moved hW.alike hK, hD9⟩, hS.F ht⟩) hS.2.2 dX4_holds_352
      · skip
        have k1065 : Rg x1058 1 1 := rg_n1 (neI c1063) k1059 (rg_lit (n := 0) (by decide)) (by decide)
        refine lv_iconst (v := 1) hx hb dX4_holds_347 (by decide) ?_
        refine lv_goto (tgt := 352) hx hb dX4_holds_348 (by decide) ?_
        have hP9 := hP.sub (ws' := [(l0, oX4 b1 b2 b3 b4), (b1, kcI cI N1 e1), (b2, kcI cI N2 e2), (b3, kcI cI N3 e3), (b4, kcI cI 28 e4)]) [0, 1, 2, 3, 4] rfl
        have hD9 := hD.sub (ws' := [(l0, oX4 b1 b2 b3 b4), (b1, kcI cI N1 e1), (b2, kcI cI N2 e2), (b3, kcI cI N3 e3), (b4, kcI cI 28 e4)]) [0, 1, 2, 3, 4] (by decide) rfl
        exact W.zret (v := 1) hx hb hr (by decide) (fun t ht hW => ⟨⟨1, (), rfl, ⟨(hF2.trans (kIter_out (kC_eq rfl (kC_eq rfl (kC_eq rfl (kif_t (leI c1057) (kLet_eq (ke_and ex1058) (kif_f (neI c1063) rfl)))))))), (Or.inr rfl)⟩, by rw [ht]; exact hP9, va_K.moved hW.alike hK, hD9⟩, hS.F ht⟩) hS.2.2 dX4_holds_352
    · skip
      have k1066 : Rg y1052 0 2147483646 := rg_l1 (nleI c1057) hy1052 (rg_any x12) (by decide)
      have k1067 : Rg x12 1 2147483647 := rg_l2 (nleI c1057) hy1052 (rg_any x12) (by decide)
      refine lv_aload_n hx hb dX4_holds_60 rfl (lv_at hl 6 rfl) ?_
      refine va_get (D := D) (ci := 4) (v := .ref b1) (C := RX4) (T := TX4) (N := 4) hx hb hts iG_X4 hown hK hP 0 rfl rfl 0 (by decide) (hts _ w25_4) (fun _ h9 => h9) rfl dX4_holds_61 ?_
      refine lv_iload hx hb dX4_holds_64 (lv_at hl 0 rfl) ?_
      refine va_iald hx hb hK hP 1 0 rfl rfl (in_nI (Int.lt_of_lt_of_le (nleI c1057) (mn_r ex12)) k1066 (by decide)) dX4_holds_66 ?_
      refine lv_topi (fun x1068 ex1068 => ?_)
      refine lv_istore (lv' := [(8, .int x1068), (7, .int y1052), (6, .int x12), (5, .int z9), (4, .int y1053), (3, .int y1054), (2, .int y1055), (0, .ref l0), (1, .int a1)]) hx hb dX4_holds_67 hl (by decide) rfl (fun ls hl => ?_)
      refine lv_iload hx hb dX4_holds_69 (lv_at hl 0 rfl) ?_
      refine k_join (hd := 335) (cells2 := 0) (slots2 := 0) (fun (u : Int32 × Int32 × Int32) => match u with | (y1272, y1273, y1274) => []) (fun (u : Int32 × Int32 × Int32) (H : Heap) (locs : List Loc) (ls : Array Slot) => match u with | (y1272, y1273, y1274) => (F_z_Law_holds_l2_s (gT e1) (gT e4) x12.toInt (y1052.toInt, y1053.toInt, y1054.toInt, y1055.toInt) = F_z_Law_holds_j3 y1052.toInt y1272.toInt y1273.toInt y1274.toInt) ∧ va_P D vwCl [(l0, oX4 b1 b2 b3 b4), (b1, kcI cI N1 e1), (b2, kcI cI N2 e2), (b3, kcI cI N3 e3), (b4, kcI cI 28 e4)] H ∧ va_D A [(l0, oX4 b1 b2 b3 b4), (b1, kcI cI N1 e1), (b2, kcI cI N2 e2), (b3, kcI cI N3 e3), (b4, kcI cI 28 e4)] ∧ va_S A s.heap H locs ∧ lv_has ls 9 [(8, .int x1068), (7, .int y1052), (6, .int x12), (5, .int z9), (4, .int y1272), (3, .int y1273), (2, .int y1274), (0, .ref l0), (1, .int a1)]) (fun u H locs ls hI => ?_) (fun hJ335 => ?_)
      · skip
        clear hP hD hS hl
        obtain ⟨y1272, y1273, y1274⟩ := u
        obtain ⟨hF3, hP, hD, hS, hl⟩ := hI
        have hP : va_P D vwCl [(l0, oX4 b1 b2 b3 b4), (b1, kcI cI N1 e1), (b2, kcI cI N2 e2), (b3, kcI cI N3 e3), (b4, kcI cI 28 e4)] H := hP
        have hD : va_D A [(l0, oX4 b1 b2 b3 b4), (b1, kcI cI N1 e1), (b2, kcI cI N2 e2), (b3, kcI cI N3 e3), (b4, kcI cI 28 e4)] := hD
        have hl : lv_has ls 9 [(8, .int x1068), (7, .int y1052), (6, .int x12), (5, .int z9), (4, .int y1272), (3, .int y1273), (2, .int y1274), (0, .ref l0), (1, .int a1)] := hl
        obtain ⟨x1275, ex1275⟩ : ∃ y : Int32, y = y1052 + 1 := ⟨_, rfl⟩
        refine lv_iinc (v := x1275) (lv' := [(7, .int x1275), (8, .int x1068), (6, .int x12), (5, .int z9), (4, .int y1272), (3, .int y1273), (2, .int y1274), (0, .ref l0), (1, .int a1)]) hx hb dX4_holds_335 hl (k := 1) rfl (by rw [ex1275]; rfl) (by decide) rfl (fun ls hl => ?_)
        have k1276 : Rg x1275 1 2147483647 := rg_add ex1275 k1066 (rg_lit (n := 1) (by decide)) (by decide)
        refine lv_goto (tgt := 53) hx hb dX4_holds_338 (by decide) ?_
        exact ih1056 (x1275, y1272, y1273, y1274) _ _ _ (by show (2147483647 - (x1275).toInt).toNat < (2147483647 - (y1052).toInt).toNat; exact mu_up ex1275 k1066 k1276 (by decide)) ⟨(hF2.trans (kIter_go (hF3.trans (kLet_eq (ti_add ex1275 k1066 (rg_lit (n := 1) (by decide)) (by decide) rfl rfl) rfl)))), (rg_w k1276 (by decide)), hP.sub (ws' := [(l0, oX4 b1 b2 b3 b4), (b1, kcI cI N1 e1), (b2, kcI cI N2 e2), (b3, kcI cI N3 e3), (b4, kcI cI 28 e4)]) [0, 1, 2, 3, 4] rfl, hD.sub (ws' := [(l0, oX4 b1 b2 b3 b4), (b1, kcI cI N1 e1), (b2, kcI cI N2 e2), (b3, kcI cI N3 e3), (b4, kcI cI 28 e4)]) [0, 1, 2, 3, 4] (by decide) rfl, hS, lv_sub (l' := [(7, .int x1275), (6, .int x12), (5, .int z9), (4, .int y1272), (3, .int y1273), (2, .int y1274), (0, .ref l0), (1, .int a1)]) hl [0, 2, 3, 4, 5, 6, 7, 8] rfl⟩
      by_cases c1277 : x1068.toInt < 1005 ∨ 1033 < x1068.toInt
      · skip
        refine lv_tableOut (tgt := 304) hx hb dX4_holds_71 c1277 (by decide) ?_
        refine lv_iload hx hb dX4_holds_304 (lv_at hl 4 rfl) ?_
        refine lv_iload hx hb dX4_holds_306 (lv_at hl 0 rfl) ?_
        refine lv_sipush (v := 999) hx hb dX4_holds_308 (by decide) ?_
        refine k_join (hd := 332) (cells2 := 0) (slots2 := 0) (fun (u : Int32 × Int32) => match u with | (z1287, z1288) => [.int z1287, .int z1288]) (fun (u : Int32 × Int32) (H : Heap) (locs : List Loc) (ls : Array Slot) => match u with | (z1287, z1288) => (F_z_Law_holds_l2_s (gT e1) (gT e4) x12.toInt (y1052.toInt, y1053.toInt, y1054.toInt, y1055.toInt) = F_z_Law_holds_j4 y1052.toInt y1054.toInt y1055.toInt z1287.toInt z1288.toInt) ∧ va_P D vwCl [(l0, oX4 b1 b2 b3 b4), (b1, kcI cI N1 e1), (b2, kcI cI N2 e2), (b3, kcI cI N3 e3), (b4, kcI cI 28 e4)] H ∧ va_D A [(l0, oX4 b1 b2 b3 b4), (b1, kcI cI N1 e1), (b2, kcI cI N2 e2), (b3, kcI cI N3 e3), (b4, kcI cI 28 e4)] ∧ va_S A s.heap H locs ∧ lv_has ls 9 [(8, .int x1068), (7, .int y1052), (6, .int x12), (5, .int z9), (4, .int y1053), (3, .int y1054), (2, .int y1055), (0, .ref l0), (1, .int a1)]) (fun u H locs ls hI => ?_) (fun hJ332 => ?_)
        · skip
          clear hP hD hS hl
          obtain ⟨z1287, z1288⟩ := u
          obtain ⟨hF4, hP, hD, hS, hl⟩ := hI
          have hP : va_P D vwCl [(l0, oX4 b1 b2 b3 b4), (b1, kcI cI N1 e1), (b2, kcI cI N2 e2), (b3, kcI cI N3 e3), (b4, kcI cI 28 e4)] H := hP
          have hD : va_D A [(l0, oX4 b1 b2 b3 b4), (b1, kcI cI N1 e1), (b2, kcI cI N2 e2), (b3, kcI cI N3 e3), (b4, kcI cI 28 e4)] := hD
          have hl : lv_has ls 9 [(8, .int x1068), (7, .int y1052), (6, .int x12), (5, .int z9), (4, .int y1053), (3, .int y1054), (2, .int y1055), (0, .ref l0), (1, .int a1)] := hl
          show W _ _ _ _ _ _ _ _ _ _ _ _ _ _ _ (F0 m 332 ls [.int z1287, .int z1288])
          refine lv_iadd hx hb dX4_holds_332 ?_
          refine lv_topi (fun x1289 ex1289 => ?_)
          refine lv_istore (lv' := [(4, .int x1289), (8, .int x1068), (7, .int y1052), (6, .int x12), (5, .int z9), (3, .int y1054), (2, .int y1055), (0, .ref l0), (1, .int a1)]) hx hb dX4_holds_333 hl (by decide) rfl (fun ls hl => ?_)
          exact hJ335 (x1289, y1054, y1055) _ _ _ ⟨(hF4.trans (kLet_eq (ke_wadd ex1289) rfl)), hP.sub (ws' := [(l0, oX4 b1 b2 b3 b4), (b1, kcI cI N1 e1), (b2, kcI cI N2 e2), (b3, kcI cI N3 e3), (b4, kcI cI 28 e4)]) [0, 1, 2, 3, 4] rfl, hD.sub (ws' := [(l0, oX4 b1 b2 b3 b4), (b1, kcI cI N1 e1), (b2, kcI cI N2 e2), (b3, kcI cI N3 e3), (b4, kcI cI 28 e4)]) [0, 1, 2, 3, 4] (by decide) rfl, hS, lv_sub (l' := [(8, .int x1068), (7, .int y1052), (6, .int x12), (5, .int z9), (4, .int x1289), (3, .int y1054), (2, .int y1055), (0, .ref l0), (1, .int a1)]) hl [1, 2, 3, 4, 0, 5, 6, 7, 8] rfl⟩
        refine lv_icmp_gt (tgt := 319) hx hb dX4_holds_311 (by decide) (fun c1290 => ?_) (fun c1290 => ?_)
        · skip
          have k1291 : Rg x1068 1000 2147483647 := rg_l2 (ltI c1290) (rg_lit (n := 999) (by decide)) (rg_any x1068) (by decide)
          refine lv_aload_n hx hb dX4_holds_319 rfl (lv_at hl 7 rfl) ?_
          refine va_get (D := D) (ci := 4) (v := .ref b4) (C := RX4) (T := TX4) (N := 4) hx hb hts iG_X4 hown hK hP 0 rfl rfl 3 (by decide) (hts _ w25_3) (fun _ h9 => h9) rfl dX4_holds_320 ?_
          refine lv_iload hx hb dX4_holds_323 (lv_at hl 0 rfl) ?_
          refine lv_sipush (v := 1010) hx hb dX4_holds_325 (by decide) ?_
          refine lv_isub hx hb dX4_holds_328 ?_
          refine lv_topi (fun x1292 ex1292 => ?_)
          have k1293 : Rg x1292 (-10) 2147482637 := rg_sub ex1292 k1291 (rg_lit (n := 1010) (by decide)) (by decide)
          refine kpurei (wc := [(b4, kcI cI 28 e4)]) hP hD hS hA [4] rfl (by decide) (fun hPc hDc hFc => va_runSN (As := [.ref b4, .int x1292]) (rest := [.int y1053]) ⟨hx, hb, hml, hown, hts⟩ (z_valueAt l D cI cJ cB cC b4 28 e4 x1292 H.size) ⟨va_cnB 2 hts gX4_holds_X10_valueAt_n32 rfl rfl rfl (nM_24 hN) (hts _ w0_2) hdX10_valueAt ⟨Nat.le_of_ble_eq_true rfl, Nat.le_of_ble_eq_true rfl⟩, hts _ w8_9, trivial⟩ ⟨kBlind, fun U hU hW => ⟨rfl, by rw [hU], hN.warm hW, hE.pass hS hFc hW hU, by rw [hU]; exact hPc, va_K.moved hW.alike hK, hDc⟩⟩ rfl rfl hl.1 rfl (lv_room (Nat.le_of_ble_eq_true rfl)) dX4_holds_329 ⟨Nat.le_of_ble_eq_true rfl, Nat.le_of_ble_eq_true rfl⟩) (fun r1294 u H locs hw hP hS => ?_)
          have k1295 := hw
          exact hJ332 (r1294, y1053) _ _ _ ⟨(kC_eq rfl (kC_eq rfl (kC_eq rfl (kif_f (xF_le c1057) (kLet_eq (ke_ld ex1068) (kif_t c1277 (kif_t (ltI c1290) (kLet_eq (ti_sub ex1292 k1291 (rg_lit (n := 1010) (by decide)) (by decide) rfl rfl) (kLet_eq (k1295).symm rfl))))))))), hP.sub (ws' := [(l0, oX4 b1 b2 b3 b4), (b1, kcI cI N1 e1), (b2, kcI cI N2 e2), (b3, kcI cI N3 e3), (b4, kcI cI 28 e4)]) [0, 1, 2, 3, 4] rfl, hD.sub (ws' := [(l0, oX4 b1 b2 b3 b4), (b1, kcI cI N1 e1), (b2, kcI cI N2 e2), (b3, kcI cI N3 e3), (b4, kcI cI 28 e4)]) [0, 1, 2, 3, 4] (by decide) rfl, hS, lv_sub (l' := [(8, .int x1068), (7, .int y1052), (6, .int x12), (5, .int z9), (4, .int y1053), (3, .int y1054), (2, .int y1055), (0, .ref l0), (1, .int a1)]) hl [0, 1, 2, 3, 4, 5, 6, 7, 8] rfl⟩
        · skip
          have k1296 : Rg x1068 (-2147483648) 999 := rg_e1 (nltI c1290) (rg_any x1068) (rg_lit (n := 999) (by decide)) (by decide)
          refine lv_iload hx hb dX4_holds_314 (lv_at hl 0 rfl) ?_
          refine lv_goto (tgt := 332) hx hb dX4_holds_316 (by decide) ?_
          exact hJ332 (x1068, y1053) _ _ _ ⟨(kC_eq rfl (kC_eq rfl (kC_eq rfl (kif_f (xF_le c1057) (kLet_eq (ke_ld ex1068) (kif_t c1277 (kif_f (xF_lt c1290) rfl))))))), hP.sub (ws' := [(l0, oX4 b1 b2 b3 b4), (b1, kcI cI N1 e1), (b2, kcI cI N2 e2), (b3, kcI cI N3 e3), (b4, kcI cI 28 e4)]) [0, 1, 2, 3, 4] rfl, hD.sub (ws' := [(l0, oX4 b1 b2 b3 b4), (b1, kcI cI N1 e1), (b2, kcI cI N2 e2), (b3, kcI cI N3 e3), (b4, kcI cI 28 e4)]) [0, 1, 2, 3, 4] (by decide) rfl, hS, lv_sub (l' := [(8, .int x1068), (7, .int y1052), (6, .int x12), (5, .int z9), (4, .int y1053), (3, .int y1054), (2, .int y1055), (0, .ref l0), (1, .int a1)]) hl [0, 1, 2, 3, 4, 5, 6, 7, 8] rfl⟩
      · skip
        have k1297 : Rg x1068 1005 1033 := rg_tab c1277 (rg_any x1068) (by decide)
        rcases (show x1068.toInt = 1005 ∨ x1068.toInt = 1006 ∨ x1068.toInt = 1007 ∨ x1068.toInt = 1008 ∨ x1068.toInt = 1009 ∨ x1068.toInt = 1010 ∨ x1068.toInt = 1011 ∨ x1068.toInt = 1012 ∨ x1068.toInt = 1013 ∨ x1068.toInt = 1014 ∨ x1068.toInt = 1015 ∨ x1068.toInt = 1016 ∨ x1068.toInt = 1017 ∨ x1068.toInt = 1018 ∨ x1068.toInt = 1019 ∨ x1068.toInt = 1020 ∨ x1068.toInt = 1021 ∨ x1068.toInt = 1022 ∨ x1068.toInt = 1023 ∨ x1068.toInt = 1024 ∨ x1068.toInt = 1025 ∨ x1068.toInt = 1026 ∨ x1068.toInt = 1027 ∨ x1068.toInt = 1028 ∨ x1068.toInt = 1029 ∨ x1068.toInt = 1030 ∨ x1068.toInt = 1031 ∨ x1068.toInt = 1032 ∨ x1068.toInt = 1033 by have q := k1297; unfold Rg at q; omega) with c1298 | c1298 | c1298 | c1298 | c1298 | c1298 | c1298 | c1298 | c1298 | c1298 | c1298 | c1298 | c1298 | c1298 | c1298 | c1298 | c1298 | c1298 | c1298 | c1298 | c1298 | c1298 | c1298 | c1298 | c1298 | c1298 | c1298 | c1298 | c1298
        · skip
          refine lv_tableIn (tgt := 209) (off := 138) hx hb dX4_holds_71 (by rw [c1298]; decide) (by rw [c1298]; decide) (by rw [c1298]; rfl) (by decide) ?_
          have k1299 : Rg x1068 1005 1005 := rg_toI c1298
          refine lv_iload_n hx hb dX4_holds_209 rfl (lv_at hl 6 rfl) ?_
          refine lv_iconst (v := 1) hx hb dX4_holds_210 (by decide) ?_
          refine lv_ishl hx hb dX4_holds_211 ?_
          refine lv_topi (fun x1300 ex1300 => ?_)
          refine lv_iload_n hx hb dX4_holds_212 rfl (lv_at hl 5 rfl) ?_
          refine lv_iload hx hb dX4_holds_213 (lv_at hl 4 rfl) ?_
          refine lv_icmp_ge (tgt := 222) hx hb dX4_holds_215 (by decide) (fun c1304 => ?_) (fun c1304 => ?_)
          · skip
            refine lv_iconst (v := 0) hx hb dX4_holds_222 (by decide) ?_
            refine lv_ior hx hb dX4_holds_223 ?_
            refine lv_topi (fun x1305 ex1305 => ?_)
            refine lv_istore_n (lv' := [(2, .int x1305), (8, .int x1068), (7, .int y1052), (6, .int x12), (5, .int z9), (4, .int y1053), (3, .int y1054), (0, .ref l0), (1, .int a1)]) hx hb dX4_holds_224 rfl hl (by decide) rfl (fun ls hl => ?_)
            refine lv_iconst (v := 0) hx hb dX4_holds_225 (by decide) ?_
            refine lv_istore (lv' := [(4, .int 0), (2, .int x1305), (8, .int x1068), (7, .int y1052), (6, .int x12), (5, .int z9), (3, .int y1054), (0, .ref l0), (1, .int a1)]) hx hb dX4_holds_226 hl (by decide) rfl (fun ls hl => ?_)
            refine lv_goto (tgt := 335) hx hb dX4_holds_228 (by decide) ?_
            exact hJ335 ((0 : Int32), y1054, x1305) _ _ _ ⟨(kC_eq rfl (kC_eq rfl (kC_eq rfl (kif_f (xF_le c1057) (kLet_eq (ke_ld ex1068) (kif_f c1277 (kif_t c1298 (kLet_eq (ke_shl ex1300) (kif_t (leI c1304) (kLet_eq (ke_or ex1305) rfl)))))))))), hP.sub (ws' := [(l0, oX4 b1 b2 b3 b4), (b1, kcI cI N1 e1), (b2, kcI cI N2 e2), (b3, kcI cI N3 e3), (b4, kcI cI 28 e4)]) [0, 1, 2, 3, 4] rfl, hD.sub (ws' := [(l0, oX4 b1 b2 b3 b4), (b1, kcI cI N1 e1), (b2, kcI cI N2 e2), (b3, kcI cI N3 e3), (b4, kcI cI 28 e4)]) [0, 1, 2, 3, 4] (by decide) rfl, hS, lv_sub (l' := [(8, .int x1068), (7, .int y1052), (6, .int x12), (5, .int z9), (4, .int 0), (3, .int y1054), (2, .int x1305), (0, .ref l0), (1, .int a1)]) hl [2, 3, 4, 5, 0, 6, 1, 7, 8] rfl⟩
          · skip
            have k1306 : Rg y1054 (-2147483648) 2147483646 := rg_l1 (nleI c1304) (rg_any y1054) (rg_any y1053) (by decide)
            have k1307 : Rg y1053 (-2147483647) 2147483647 := rg_l2 (nleI c1304) (rg_any y1054) (rg_any y1053) (by decide)
            refine lv_iconst (v := 1) hx hb dX4_holds_218 (by decide) ?_
            refine lv_goto (tgt := 223) hx hb dX4_holds_219 (by decide) ?_
            refine lv_ior hx hb dX4_holds_223 ?_
            refine lv_topi (fun x1308 ex1308 => ?_)
            refine lv_istore_n (lv' := [(2, .int x1308), (8, .int x1068), (7, .int y1052), (6, .int x12), (5, .int z9), (4, .int y1053), (3, .int y1054), (0, .ref l0), (1, .int a1)]) hx hb dX4_holds_224 rfl hl (by decide) rfl (fun ls hl => ?_)
            refine lv_iconst (v := 0) hx hb dX4_holds_225 (by decide) ?_
            refine lv_istore (lv' := [(4, .int 0), (2, .int x1308), (8, .int x1068), (7, .int y1052), (6, .int x12), (5, .int z9), (3, .int y1054), (0, .ref l0), (1, .int a1)]) hx hb dX4_holds_226 hl (by decide) rfl (fun ls hl => ?_)
            refine lv_goto (tgt := 335) hx hb dX4_holds_228 (by decide) ?_
            exact hJ335 ((0 : Int32), y1054, x1308) _ _ _ ⟨(kC_eq rfl (kC_eq rfl (kC_eq rfl (kif_f (xF_le c1057) (kLet_eq (ke_ld ex1068) (kif_f c1277 (kif_t c1298 (kLet_eq (ke_shl ex1300) (kif_f (xF_le c1304) (kLet_eq (ke_or ex1308) rfl)))))))))), hP.sub (ws' := [(l0, oX4 b1 b2 b3 b4), (b1, kcI cI N1 e1), (b2, kcI cI N2 e2), (b3, kcI cI N3 e3), (b4, kcI cI 28 e4)]) [0, 1, 2, 3, 4] rfl, hD.sub (ws' := [(l0, oX4 b1 b2 b3 b4), (b1, kcI cI N1 e1), (b2, kcI cI N2 e2), (b3, kcI cI N3 e3), (b4, kcI cI 28 e4)]) [0, 1, 2, 3, 4] (by decide) rfl, hS, lv_sub (l' := [(8, .int x1068), (7, .int y1052), (6, .int x12), (5, .int z9), (4, .int 0), (3, .int y1054), (2, .int x1308), (0, .ref l0), (1, .int a1)]) hl [2, 3, 4, 5, 0, 6, 1, 7, 8] rfl⟩
        · skip
          refine lv_tableIn (tgt := 231) (off := 160) hx hb dX4_holds_71 (by rw [c1298]; decide) (by rw [c1298]; decide) (by rw [c1298]; rfl) (by decide) ?_
          have k1309 : Rg x1068 1006 1006 := rg_toI c1298
          refine lv_iload_n hx hb dX4_holds_231 rfl (lv_at hl 6 rfl) ?_
          refine lv_iconst (v := 1) hx hb dX4_holds_232 (by decide) ?_
          refine lv_ishl hx hb dX4_holds_233 ?_
          refine lv_topi (fun x1310 ex1310 => ?_)
          refine lv_iload_n hx hb dX4_holds_234 rfl (lv_at hl 5 rfl) ?_
          refine lv_iload hx hb dX4_holds_235 (lv_at hl 4 rfl) ?_
          refine lv_icmp_le (tgt := 244) hx hb dX4_holds_237 (by decide) (fun c1314 => ?_) (fun c1314 => ?_)
          · skip
            refine lv_iconst (v := 0) hx hb dX4_holds_244 (by decide) ?_
            refine lv_ior hx hb dX4_holds_245 ?_
            refine lv_topi (fun x1315 ex1315 => ?_)
            refine lv_istore_n (lv' := [(2, .int x1315), (8, .int x1068), (7, .int y1052), (6, .int x12), (5, .int z9), (4, .int y1053), (3, .int y1054), (0, .ref l0), (1, .int a1)]) hx hb dX4_holds_246 rfl hl (by decide) rfl (fun ls hl => ?_)
            refine lv_iconst (v := 0) hx hb dX4_holds_247 (by decide) ?_
            refine lv_istore (lv' := [(4, .int 0), (2, .int x1315), (8, .int x1068), (7, .int y1052), (6, .int x12), (5, .int z9), (3, .int y1054), (0, .ref l0), (1, .int a1)]) hx hb dX4_holds_248 hl (by decide) rfl (fun ls hl => ?_)
            refine lv_goto (tgt := 335) hx hb dX4_holds_250 (by decide) ?_
            exact hJ335 ((0 : Int32), y1054, x1315) _ _ _ ⟨(kC_eq rfl (kC_eq rfl (kC_eq rfl (kif_f (xF_le c1057) (kLet_eq (ke_ld ex1068) (kif_f c1277 (kif_f (fun q9 => absurd (c1298.symm.trans q9) (by decide)) (kif_t c1298 (kLet_eq (ke_shl ex1310) (kif_t (leI c1314) (kLet_eq (ke_or ex1315) rfl))))))))))), hP.sub (ws' := [(l0, oX4 b1 b2 b3 b4), (b1, kcI cI N1 e1), (b2, kcI cI N2 e2), (b3, kcI cI N3 e3), (b4, kcI cI 28 e4)]) [0, 1, 2, 3, 4] rfl, hD.sub (ws' := [(l0, oX4 b1 b2 b3 b4), (b1, kcI cI N1 e1), (b2, kcI cI N2 e2), (b3, kcI cI N3 e3), (b4, kcI cI 28 e4)]) [0, 1, 2, 3, 4] (by decide) rfl, hS, lv_sub (l' := [(8, .int x1068), (7, .int y1052), (6, .int x12), (5, .int z9), (4, .int 0), (3, .int y1054), (2, .int x1315), (0, .ref l0), (1, .int a1)]) hl [2, 3, 4, 5, 0, 6, 1, 7, 8] rfl⟩
          · skip
            have k1316 : Rg y1054 (-2147483647) 2147483647 := rg_l2 (nleI c1314) (rg_any y1053) (rg_any y1054) (by decide)
            have k1317 : Rg y1053 (-2147483648) 2147483646 := rg_l1 (nleI c1314) (rg_any y1053) (rg_any y1054) (by decide)
            refine lv_iconst (v := 1) hx hb dX4_holds_240 (by decide) ?_
            refine lv_goto (tgt := 245) hx hb dX4_holds_241 (by decide) ?_
            refine lv_ior hx hb dX4_holds_245 ?_
            refine lv_topi (fun x1318 ex1318 => ?_)
            refine lv_istore_n (lv' := [(2, .int x1318), (8, .int x1068), (7, .int y1052), (6, .int x12), (5, .int z9), (4, .int y1053), (3, .int y1054), (0, .ref l0), (1, .int a1)]) hx hb dX4_holds_246 rfl hl (by decide) rfl (fun ls hl => ?_)
            refine lv_iconst (v := 0) hx hb dX4_holds_247 (by decide) ?_
            refine lv_istore (lv' := [(4, .int 0), (2, .int x1318), (8, .int x1068), (7, .int y1052), (6, .int x12), (5, .int z9), (3, .int y1054), (0, .ref l0), (1, .int a1)]) hx hb dX4_holds_248 hl (by decide) rfl (fun ls hl => ?_)
            refine lv_goto (tgt := 335) hx hb dX4_holds_250 (by decide) ?_
            exact hJ335 ((0 : Int32), y1054, x1318) _ _ _ ⟨(kC_eq rfl (kC_eq rfl (kC_eq rfl (kif_f (xF_le c1057) (kLet_eq (ke_ld ex1068) (kif_f c1277 (kif_f (fun q9 => absurd (c1298.symm.trans q9) (by decide)) (kif_t c1298 (kLet_eq (ke_shl ex1310) (kif_f (xF_le c1314) (kLet_eq (ke_or ex1318) rfl))))))))))), hP.sub (ws' := [(l0, oX4 b1 b2 b3 b4), (b1, kcI cI N1 e1), (b2, kcI cI N2 e2), (b3, kcI cI N3 e3), (b4, kcI cI 28 e4)]) [0, 1, 2, 3, 4] rfl, hD.sub (ws' := [(l0, oX4 b1 b2 b3 b4), (b1, kcI cI N1 e1), (b2, kcI cI N2 e2), (b3, kcI cI N3 e3), (b4, kcI cI 28 e4)]) [0, 1, 2, 3, 4] (by decide) rfl, hS, lv_sub (l' := [(8, .int x1068), (7, .int y1052), (6, .int x12), (5, .int z9), (4, .int 0), (3, .int y1054), (2, .int x1318), (0, .ref l0), (1, .int a1)]) hl [2, 3, 4, 5, 0, 6, 1, 7, 8] rfl⟩
        · skip
          refine lv_tableIn (tgt := 304) (off := 233) hx hb dX4_holds_71 (by rw [c1298]; decide) (by rw [c1298]; decide) (by rw [c1298]; rfl) (by decide) ?_
          have k1319 : Rg x1068 1007 1007 := rg_toI c1298
          refine lv_iload hx hb dX4_holds_304 (lv_at hl 4 rfl) ?_
          refine lv_iload hx hb dX4_holds_306 (lv_at hl 0 rfl) ?_
          refine lv_sipush (v := 999) hx hb dX4_holds_308 (by decide) ?_
          refine lv_icmp_gt (tgt := 319) hx hb dX4_holds_311 (by decide) (fun _ => ?_) (fun c1325 => absurd (rg_gt k1319 (rg_lit (n := 999) (by decide)) (by decide)) c1325)
          refine lv_aload_n hx hb dX4_holds_319 rfl (lv_at hl 7 rfl) ?_
          refine va_get (D := D) (ci := 4) (v := .ref b4) (C := RX4) (T := TX4) (N := 4) hx hb hts iG_X4 hown hK hP 0 rfl rfl 3 (by decide) (hts _ w25_3) (fun _ h9 => h9) rfl dX4_holds_320 ?_
          refine lv_iload hx hb dX4_holds_323 (lv_at hl 0 rfl) ?_
          refine lv_sipush (v := 1010) hx hb dX4_holds_325 (by decide) ?_
          refine lv_isub hx hb dX4_holds_328 ?_
          refine lv_topi (fun x1326 ex1326 => ?_)
          have k1327 : Rg x1326 (-3) (-3) := rg_sub ex1326 k1319 (rg_lit (n := 1010) (by decide)) (by decide)
          refine kpurei (wc := [(b4, kcI cI 28 e4)]) hP hD hS hA [4] rfl (by decide) (fun hPc hDc hFc => va_runSN (As := [.ref b4, .int x1326]) (rest := [.int y1053]) ⟨hx, hb, hml, hown, hts⟩ (z_valueAt l D cI cJ cB cC b4 28 e4 x1326 H.size) ⟨va_cnB 2 hts gX4_holds_X10_valueAt_n32 rfl rfl rfl (nM_24 hN) (hts _ w0_2) hdX10_valueAt ⟨Nat.le_of_ble_eq_true rfl, Nat.le_of_ble_eq_true rfl⟩, hts _ w8_9, trivial⟩ ⟨kBlind, fun U hU hW => ⟨rfl, by rw [hU], hN.warm hW, hE.pass hS hFc hW hU, by rw [hU]; exact hPc, va_K.moved hW.alike hK, hDc⟩⟩ rfl rfl hl.1 rfl (lv_room (Nat.le_of_ble_eq_true rfl)) dX4_holds_329 ⟨Nat.le_of_ble_eq_true rfl, Nat.le_of_ble_eq_true rfl⟩) (fun r1328 u H locs hw hP hS => ?_)
          have k1329 := hw
          refine lv_iadd hx hb dX4_holds_332 ?_
          refine lv_topi (fun x1330 ex1330 => ?_)
          refine lv_istore (lv' := [(4, .int x1330), (8, .int x1068), (7, .int y1052), (6, .int x12), (5, .int z9), (3, .int y1054), (2, .int y1055), (0, .ref l0), (1, .int a1)]) hx hb dX4_holds_333 hl (by decide) rfl (fun ls hl => ?_)
          exact hJ335 (x1330, y1054, y1055) _ _ _ ⟨(kC_eq rfl (kC_eq rfl (kC_eq rfl (kif_f (xF_le c1057) (kLet_eq (ke_ld ex1068) (kif_f c1277 (kif_f (fun q9 => absurd (c1298.symm.trans q9) (by decide)) (kif_f (fun q9 => absurd (c1298.symm.trans q9) (by decide)) (kif_t c1298 (kLet_eq (ti_sub ex1326 k1319 (rg_lit (n := 1010) (by decide)) (by decide) rfl rfl) (kLet_eq (k1329).symm (kLet_eq (ke_wadd ex1330) rfl)))))))))))), hP.sub (ws' := [(l0, oX4 b1 b2 b3 b4), (b1, kcI cI N1 e1), (b2, kcI cI N2 e2), (b3, kcI cI N3 e3), (b4, kcI cI 28 e4)]) [0, 1, 2, 3, 4] rfl, hD.sub (ws' := [(l0, oX4 b1 b2 b3 b4), (b1, kcI cI N1 e1), (b2, kcI cI N2 e2), (b3, kcI cI N3 e3), (b4, kcI cI 28 e4)]) [0, 1, 2, 3, 4] (by decide) rfl, hS, lv_sub (l' := [(8, .int x1068), (7, .int y1052), (6, .int x12), (5, .int z9), (4, .int x1330), (3, .int y1054), (2, .int y1055), (0, .ref l0), (1, .int a1)]) hl [1, 2, 3, 4, 0, 5, 6, 7, 8] rfl⟩
        · skip
          refine lv_tableIn (tgt := 200) (off := 129) hx hb dX4_holds_71 (by rw [c1298]; decide) (by rw [c1298]; decide) (by rw [c1298]; rfl) (by decide) ?_
          have k1331 : Rg x1068 1008 1008 := rg_toI c1298
          refine lv_iload hx hb dX4_holds_200 (lv_at hl 4 rfl) ?_
          refine lv_istore_n (lv' := [(3, .int y1053), (8, .int x1068), (7, .int y1052), (6, .int x12), (5, .int z9), (4, .int y1053), (2, .int y1055), (0, .ref l0), (1, .int a1)]) hx hb dX4_holds_202 rfl hl (by decide) rfl (fun ls hl => ?_)
          refine lv_iconst (v := 0) hx hb dX4_holds_203 (by decide) ?_
          refine lv_istore (lv' := [(4, .int 0), (3, .int y1053), (8, .int x1068), (7, .int y1052), (6, .int x12), (5, .int z9), (2, .int y1055), (0, .ref l0), (1, .int a1)]) hx hb dX4_holds_204 hl (by decide) rfl (fun ls hl => ?_)
          refine lv_goto (tgt := 335) hx hb dX4_holds_206 (by decide) ?_
          exact hJ335 ((0 : Int32), y1053, y1055) _ _ _ ⟨(kC_eq rfl (kC_eq rfl (kC_eq rfl (kif_f (xF_le c1057) (kLet_eq (ke_ld ex1068) (kif_f c1277 (kif_f (fun q9 => absurd (c1298.symm.trans q9) (by decide)) (kif_f (fun q9 => absurd (c1298.symm.trans q9) (by decide)) (kif_f (fun q9 => absurd (c1298.symm.trans q9) (by decide)) (kif_t c1298 rfl)))))))))), hP.sub (ws' := [(l0, oX4 b1 b2 b3 b4), (b1, kcI cI N1 e1), (b2, kcI cI N2 e2), (b3, kcI cI N3 e3), (b4, kcI cI 28 e4)]) [0, 1, 2, 3, 4] rfl, hD.sub (ws' := [(l0, oX4 b1 b2 b3 b4), (b1, kcI cI N1 e1), (b2, kcI cI N2 e2), (b3, kcI cI N3 e3), (b4, kcI cI 28 e4)]) [0, 1, 2, 3, 4] (by decide) rfl, hS, lv_sub (l' := [(8, .int x1068), (7, .int y1052), (6, .int x12), (5, .int z9), (4, .int 0), (3, .int y1053), (2, .int y1055), (0, .ref l0), (1, .int a1)]) hl [2, 3, 4, 5, 0, 1, 6, 7, 8] rfl⟩
        · skip
          refine lv_tableIn (tgt := 304) (off := 233) hx hb dX4_holds_71 (by rw [c1298]; decide) (by rw [c1298]; decide) (by rw [c1298]; rfl) (by decide) ?_
          have k1332 : Rg x1068 1009 1009 := rg_toI c1298
          refine lv_iload hx hb dX4_holds_304 (lv_at hl 4 rfl) ?_
          refine lv_iload hx hb dX4_holds_306 (lv_at hl 0 rfl) ?_
          refine lv_sipush (v := 999) hx hb dX4_holds_308 (by decide) ?_
          refine lv_icmp_gt (tgt := 319) hx hb dX4_holds_311 (by decide) (fun _ => ?_) (fun c1338 => absurd (rg_gt k1332 (rg_lit (n := 999) (by decide)) (by decide)) c1338)
          refine lv_aload_n hx hb dX4_holds_319 rfl (lv_at hl 7 rfl) ?_
          refine va_get (D := D) (ci := 4) (v := .ref b4) (C := RX4) (T := TX4) (N := 4) hx hb hts iG_X4 hown hK hP 0 rfl rfl 3 (by decide) (hts _ w25_3) (fun _ h9 => h9) rfl dX4_holds_320 ?_
          refine lv_iload hx hb dX4_holds_323 (lv_at hl 0 rfl) ?_
          refine lv_sipush (v := 1010) hx hb dX4_holds_325 (by decide) ?_
          refine lv_isub hx hb dX4_holds_328 ?_
          refine lv_topi (fun x1339 ex1339 => ?_)
          have k1340 : Rg x1339 (-1) (-1) := rg_sub ex1339 k1332 (rg_lit (n := 1010) (by decide)) (by decide)
          refine kpurei (wc := [(b4, kcI cI 28 e4)]) hP hD hS hA [4] rfl (by decide) (fun hPc hDc hFc => va_runSN (As := [.ref b4, .int x1339]) (rest := [.int y1053]) ⟨hx, hb, hml, hown, hts⟩ (z_valueAt l D cI cJ cB cC b4 28 e4 x1339 H.size) ⟨va_cnB 2 hts gX4_holds_X10_valueAt_n32 rfl rfl rfl (nM_24 hN) (hts _ w0_2) hdX10_valueAt ⟨Nat.le_of_ble_eq_true rfl, Nat.le_of_ble_eq_true rfl⟩, hts _ w8_9, trivial⟩ ⟨kBlind, fun U hU hW => ⟨rfl, by rw [hU], hN.warm hW, hE.pass hS hFc hW hU, by rw [hU]; exact hPc, va_K.moved hW.alike hK, hDc⟩⟩ rfl rfl hl.1 rfl (lv_room (Nat.le_of_ble_eq_true rfl)) dX4_holds_329 ⟨Nat.le_of_ble_eq_true rfl, Nat.le_of_ble_eq_true rfl⟩) (fun r1341 u H locs hw hP hS => ?_)
          have k1342 := hw
          refine lv_iadd hx hb dX4_holds_332 ?_
          refine lv_topi (fun x1343 ex1343 => ?_)
          refine lv_istore (lv' := [(4, .int x1343), (8, .int x1068), (7, .int y1052), (6, .int x12), (5, .int z9), (3, .int y1054), (2, .int y1055), (0, .ref l0), (1, .int a1)]) hx hb dX4_holds_333 hl (by decide) rfl (fun ls hl => ?_)
          exact hJ335 (x1343, y1054, y1055) _ _ _ ⟨(kC_eq rfl (kC_eq rfl (kC_eq rfl (kif_f (xF_le c1057) (kLet_eq (ke_ld ex1068) (kif_f c1277 (kif_f (fun q9 => absurd (c1298.symm.trans q9) (by decide)) (kif_f (fun q9 => absurd (c1298.symm.trans q9) (by decide)) (kif_f (fun q9 => absurd (c1298.symm.trans q9) (by decide)) (kif_f (fun q9 => absurd (c1298.symm.trans q9) (by decide)) (kif_t c1298 (kLet_eq (ti_sub ex1339 k1332 (rg_lit (n := 1010) (by decide)) (by decide) rfl rfl) (kLet_eq (k1342).symm (kLet_eq (ke_wadd ex1343) rfl)))))))))))))), hP.sub (ws' := [(l0, oX4 b1 b2 b3 b4), (b1, kcI cI N1 e1), (b2, kcI cI N2 e2), (b3, kcI cI N3 e3), (b4, kcI cI 28 e4)]) [0, 1, 2, 3, 4] rfl, hD.sub (ws' := [(l0, oX4 b1 b2 b3 b4), (b1, kcI cI N1 e1), (b2, kcI cI N2 e2), (b3, kcI cI N3 e3), (b4, kcI cI 28 e4)]) [0, 1, 2, 3, 4] (by decide) rfl, hS, lv_sub (l' := [(8, .int x1068), (7, .int y1052), (6, .int x12), (5, .int z9), (4, .int x1343), (3, .int y1054), (2, .int y1055), (0, .ref l0), (1, .int a1)]) hl [1, 2, 3, 4, 0, 5, 6, 7, 8] rfl⟩
        · skip
          refine lv_tableIn (tgt := 304) (off := 233) hx hb dX4_holds_71 (by rw [c1298]; decide) (by rw [c1298]; decide) (by rw [c1298]; rfl) (by decide) ?_
          have k1344 : Rg x1068 1010 1010 := rg_toI c1298
          refine lv_iload hx hb dX4_holds_304 (lv_at hl 4 rfl) ?_
          refine lv_iload hx hb dX4_holds_306 (lv_at hl 0 rfl) ?_
          refine lv_sipush (v := 999) hx hb dX4_holds_308 (by decide) ?_
          refine lv_icmp_gt (tgt := 319) hx hb dX4_holds_311 (by decide) (fun _ => ?_) (fun c1350 => absurd (rg_gt k1344 (rg_lit (n := 999) (by decide)) (by decide)) c1350)
          refine lv_aload_n hx hb dX4_holds_319 rfl (lv_at hl 7 rfl) ?_
          refine va_get (D := D) (ci := 4) (v := .ref b4) (C := RX4) (T := TX4) (N := 4) hx hb hts iG_X4 hown hK hP 0 rfl rfl 3 (by decide) (hts _ w25_3) (fun _ h9 => h9) rfl dX4_holds_320 ?_
          refine lv_iload hx hb dX4_holds_323 (lv_at hl 0 rfl) ?_
          refine lv_sipush (v := 1010) hx hb dX4_holds_325 (by decide) ?_
          refine lv_isub hx hb dX4_holds_328 ?_
          refine lv_topi (fun x1351 ex1351 => ?_)
          have k1352 : Rg x1351 0 0 := rg_sub ex1351 k1344 (rg_lit (n := 1010) (by decide)) (by decide)
          refine kpurei (wc := [(b4, kcI cI 28 e4)]) hP hD hS hA [4] rfl (by decide) (fun hPc hDc hFc => va_runSN (As := [.ref b4, .int x1351]) (rest := [.int y1053]) ⟨hx, hb, hml, hown, hts⟩ (z_valueAt l D cI cJ cB cC b4 28 e4 x1351 H.size) ⟨va_cnB 2 hts gX4_holds_X10_valueAt_n32 rfl rfl rfl (nM_24 hN) (hts _ w0_2) hdX10_valueAt ⟨Nat.le_of_ble_eq_true rfl, Nat.le_of_ble_eq_true rfl⟩, hts _ w8_9, trivial⟩ ⟨kBlind, fun U hU hW => ⟨rfl, by rw [hU], hN.warm hW, hE.pass hS hFc hW hU, by rw [hU]; exact hPc, va_K.moved hW.alike hK, hDc⟩⟩ rfl rfl hl.1 rfl (lv_room (Nat.le_of_ble_eq_true rfl)) dX4_holds_329 ⟨Nat.le_of_ble_eq_true rfl, Nat.le_of_ble_eq_true rfl⟩) (fun r1353 u H locs hw hP hS => ?_)
          have k1354 := hw
          refine lv_iadd hx hb dX4_holds_332 ?_
          refine lv_topi (fun x1355 ex1355 => ?_)
          refine lv_istore (lv' := [(4, .int x1355), (8, .int x1068), (7, .int y1052), (6, .int x12), (5, .int z9), (3, .int y1054), (2, .int y1055), (0, .ref l0), (1, .int a1)]) hx hb dX4_holds_333 hl (by decide) rfl (fun ls hl => ?_)
          exact hJ335 (x1355, y1054, y1055) _ _ _ ⟨(kC_eq rfl (kC_eq rfl (kC_eq rfl (kif_f (xF_le c1057) (kLet_eq (ke_ld ex1068) (kif_f c1277 (kif_f (fun q9 => absurd (c1298.symm.trans q9) (by decide)) (kif_f (fun q9 => absurd (c1298.symm.trans q9) (by decide)) (kif_f (fun q9 => absurd (c1298.symm.trans q9) (by decide)) (kif_f (fun q9 => absurd (c1298.symm.trans q9) (by decide)) (kif_f (fun q9 => absurd (c1298.symm.trans q9) (by decide)) (kif_t c1298 (kLet_eq (ti_sub ex1351 k1344 (rg_lit (n := 1010) (by decide)) (by decide) rfl rfl) (kLet_eq (k1354).symm (kLet_eq (ke_wadd ex1355) rfl))))))))))))))), hP.sub (ws' := [(l0, oX4 b1 b2 b3 b4), (b1, kcI cI N1 e1), (b2, kcI cI N2 e2), (b3, kcI cI N3 e3), (b4, kcI cI 28 e4)]) [0, 1, 2, 3, 4] rfl, hD.sub (ws' := [(l0, oX4 b1 b2 b3 b4), (b1, kcI cI N1 e1), (b2, kcI cI N2 e2), (b3, kcI cI N3 e3), (b4, kcI cI 28 e4)]) [0, 1, 2, 3, 4] (by decide) rfl, hS, lv_sub (l' := [(8, .int x1068), (7, .int y1052), (6, .int x12), (5, .int z9), (4, .int x1355), (3, .int y1054), (2, .int y1055), (0, .ref l0), (1, .int a1)]) hl [1, 2, 3, 4, 0, 5, 6, 7, 8] rfl⟩
        · skip
          refine lv_tableIn (tgt := 304) (off := 233) hx hb dX4_holds_71 (by rw [c1298]; decide) (by rw [c1298]; decide) (by rw [c1298]; rfl) (by decide) ?_
          have k1356 : Rg x1068 1011 1011 := rg_toI c1298
          refine lv_iload hx hb dX4_holds_304 (lv_at hl 4 rfl) ?_
          refine lv_iload hx hb dX4_holds_306 (lv_at hl 0 rfl) ?_
          refine lv_sipush (v := 999) hx hb dX4_holds_308 (by decide) ?_
          refine lv_icmp_gt (tgt := 319) hx hb dX4_holds_311 (by decide) (fun _ => ?_) (fun c1362 => absurd (rg_gt k1356 (rg_lit (n := 999) (by decide)) (by decide)) c1362)
          refine lv_aload_n hx hb dX4_holds_319 rfl (lv_at hl 7 rfl) ?_
          refine va_get (D := D) (ci := 4) (v := .ref b4) (C := RX4) (T := TX4) (N := 4) hx hb hts iG_X4 hown hK hP 0 rfl rfl 3 (by decide) (hts _ w25_3) (fun _ h9 => h9) rfl dX4_holds_320 ?_
          refine lv_iload hx hb dX4_holds_323 (lv_at hl 0 rfl) ?_
          refine lv_sipush (v := 1010) hx hb dX4_holds_325 (by decide) ?_
          refine lv_isub hx hb dX4_holds_328 ?_
          refine lv_topi (fun x1363 ex1363 => ?_)
          have k1364 : Rg x1363 1 1 := rg_sub ex1363 k1356 (rg_lit (n := 1010) (by decide)) (by decide)
          refine kpurei (wc := [(b4, kcI cI 28 e4)]) hP hD hS hA [4] rfl (by decide) (fun hPc hDc hFc => va_runSN (As := [.ref b4, .int x1363]) (rest := [.int y1053]) ⟨hx, hb, hml, hown, hts⟩ (z_valueAt l D cI cJ cB cC b4 28 e4 x1363 H.size) ⟨va_cnB 2 hts gX4_holds_X10_valueAt_n32 rfl rfl rfl (nM_24 hN) (hts _ w0_2) hdX10_valueAt ⟨Nat.le_of_ble_eq_true rfl, Nat.le_of_ble_eq_true rfl⟩, hts _ w8_9, trivial⟩ ⟨kBlind, fun U hU hW => ⟨rfl, by rw [hU], hN.warm hW, hE.pass hS hFc hW hU, by rw [hU]; exact hPc, va_K.moved hW.alike hK, hDc⟩⟩ rfl rfl hl.1 rfl (lv_room (Nat.le_of_ble_eq_true rfl)) dX4_holds_329 ⟨Nat.le_of_ble_eq_true rfl, Nat.le_of_ble_eq_true rfl⟩) (fun r1365 u H locs hw hP hS => ?_)
          have k1366 := hw
          refine lv_iadd hx hb dX4_holds_332 ?_
          refine lv_topi (fun x1367 ex1367 => ?_)
          refine lv_istore (lv' := [(4, .int x1367), (8, .int x1068), (7, .int y1052), (6, .int x12), (5, .int z9), (3, .int y1054), (2, .int y1055), (0, .ref l0), (1, .int a1)]) hx hb dX4_holds_333 hl (by decide) rfl (fun ls hl => ?_)
          exact hJ335 (x1367, y1054, y1055) _ _ _ ⟨(kC_eq rfl (kC_eq rfl (kC_eq rfl (kif_f (xF_le c1057) (kLet_eq (ke_ld ex1068) (kif_f c1277 (kif_f (fun q9 => absurd (c1298.symm.trans q9) (by decide)) (kif_f (fun q9 => absurd (c1298.symm.trans q9) (by decide)) (kif_f (fun q9 => absurd (c1298.symm.trans q9) (by decide)) (kif_f (fun q9 => absurd (c1298.symm.trans q9) (by decide)) (kif_f (fun q9 => absurd (c1298.symm.trans q9) (by decide)) (kif_f (fun q9 => absurd (c1298.symm.trans q9) (by decide)) (kif_t c1298 (kLet_eq (ti_sub ex1363 k1356 (rg_lit (n := 1010) (by decide)) (by decide) rfl rfl) (kLet_eq (k1366).symm (kLet_eq (ke_wadd ex1367) rfl)))))))))))))))), hP.sub (ws' := [(l0, oX4 b1 b2 b3 b4), (b1, kcI cI N1 e1), (b2, kcI cI N2 e2), (b3, kcI cI N3 e3), (b4, kcI cI 28 e4)]) [0, 1, 2, 3, 4] rfl, hD.sub (ws' := [(l0, oX4 b1 b2 b3 b4), (b1, kcI cI N1 e1), (b2, kcI cI N2 e2), (b3, kcI cI N3 e3), (b4, kcI cI 28 e4)]) [0, 1, 2, 3, 4] (by decide) rfl, hS, lv_sub (l' := [(8, .int x1068), (7, .int y1052), (6, .int x12), (5, .int z9), (4, .int x1367), (3, .int y1054), (2, .int y1055), (0, .ref l0), (1, .int a1)]) hl [1, 2, 3, 4, 0, 5, 6, 7, 8] rfl⟩
        · skip
          refine lv_tableIn (tgt := 304) (off := 233) hx hb dX4_holds_71 (by rw [c1298]; decide) (by rw [c1298]; decide) (by rw [c1298]; rfl) (by decide) ?_
          have k1368 : Rg x1068 1012 1012 := rg_toI c1298
          refine lv_iload hx hb dX4_holds_304 (lv_at hl 4 rfl) ?_
          refine lv_iload hx hb dX4_holds_306 (lv_at hl 0 rfl) ?_
          refine lv_sipush (v := 999) hx hb dX4_holds_308 (by decide) ?_
          refine lv_icmp_gt (tgt := 319) hx hb dX4_holds_311 (by decide) (fun _ => ?_) (fun c1374 => absurd (rg_gt k1368 (rg_lit (n := 999) (by decide)) (by decide)) c1374)
          refine lv_aload_n hx hb dX4_holds_319 rfl (lv_at hl 7 rfl) ?_
          refine va_get (D := D) (ci := 4) (v := .ref b4) (C := RX4) (T := TX4) (N := 4) hx hb hts iG_X4 hown hK hP 0 rfl rfl 3 (by decide) (hts _ w25_3) (fun _ h9 => h9) rfl dX4_holds_320 ?_
          refine lv_iload hx hb dX4_holds_323 (lv_at hl 0 rfl) ?_
          refine lv_sipush (v := 1010) hx hb dX4_holds_325 (by decide) ?_
          refine lv_isub hx hb dX4_holds_328 ?_
          refine lv_topi (fun x1375 ex1375 => ?_)
          have k1376 : Rg x1375 2 2 := rg_sub ex1375 k1368 (rg_lit (n := 1010) (by decide)) (by decide)
          refine kpurei (wc := [(b4, kcI cI 28 e4)]) hP hD hS hA [4] rfl (by decide) (fun hPc hDc hFc => va_runSN (As := [.ref b4, .int x1375]) (rest := [.int y1053]) ⟨hx, hb, hml, hown, hts⟩ (z_valueAt l D cI cJ cB cC b4 28 e4 x1375 H.size) ⟨va_cnB 2 hts gX4_holds_X10_valueAt_n32 rfl rfl rfl (nM_24 hN) (hts _ w0_2) hdX10_valueAt ⟨Nat.le_of_ble_eq_true rfl, Nat.le_of_ble_eq_true rfl⟩, hts _ w8_9, trivial⟩ ⟨kBlind, fun U hU hW => ⟨rfl, by rw [hU], hN.warm hW, hE.pass hS hFc hW hU, by rw [hU]; exact hPc, va_K.moved hW.alike hK, hDc⟩⟩ rfl rfl hl.1 rfl (lv_room (Nat.le_of_ble_eq_true rfl)) dX4_holds_329 ⟨Nat.le_of_ble_eq_true rfl, Nat.le_of_ble_eq_true rfl⟩) (fun r1377 u H locs hw hP hS => ?_)
          have k1378 := hw
          refine lv_iadd hx hb dX4_holds_332 ?_
          refine lv_topi (fun x1379 ex1379 => ?_)
          refine lv_istore (lv' := [(4, .int x1379), (8, .int x1068), (7, .int y1052), (6, .int x12), (5, .int z9), (3, .int y1054), (2, .int y1055), (0, .ref l0), (1, .int a1)]) hx hb dX4_holds_333 hl (by decide) rfl (fun ls hl => ?_)
          exact hJ335 (x1379, y1054, y1055) _ _ _ ⟨(kC_eq rfl (kC_eq rfl (kC_eq rfl (kif_f (xF_le c1057) (kLet_eq (ke_ld ex1068) (kif_f c1277 (kif_f (fun q9 => absurd (c1298.symm.trans q9) (by decide)) (kif_f (fun q9 => absurd (c1298.symm.trans q9) (by decide)) (kif_f (fun q9 => absurd (c1298.symm.trans q9) (by decide)) (kif_f (fun q9 => absurd (c1298.symm.trans q9) (by decide)) (kif_f (fun q9 => absurd (c1298.symm.trans q9) (by decide)) (kif_f (fun q9 => absurd (c1298.symm.trans q9) (by decide)) (kif_f (fun q9 => absurd (c1298.symm.trans q9) (by decide)) (kif_t c1298 (kLet_eq (ti_sub ex1375 k1368 (rg_lit (n := 1010) (by decide)) (by decide) rfl rfl) (kLet_eq (k1378).symm (kLet_eq (ke_wadd ex1379) rfl))))))))))))))))), hP.sub (ws' := [(l0, oX4 b1 b2 b3 b4), (b1, kcI cI N1 e1), (b2, kcI cI N2 e2), (b3, kcI cI N3 e3), (b4, kcI cI 28 e4)]) [0, 1, 2, 3, 4] rfl, hD.sub (ws' := [(l0, oX4 b1 b2 b3 b4), (b1, kcI cI N1 e1), (b2, kcI cI N2 e2), (b3, kcI cI N3 e3), (b4, kcI cI 28 e4)]) [0, 1, 2, 3, 4] (by decide) rfl, hS, lv_sub (l' := [(8, .int x1068), (7, .int y1052), (6, .int x12), (5, .int z9), (4, .int x1379), (3, .int y1054), (2, .int y1055), (0, .ref l0), (1, .int a1)]) hl [1, 2, 3, 4, 0, 5, 6, 7, 8] rfl⟩
        · skip
          refine lv_tableIn (tgt := 304) (off := 233) hx hb dX4_holds_71 (by rw [c1298]; decide) (by rw [c1298]; decide) (by rw [c1298]; rfl) (by decide) ?_
          have k1380 : Rg x1068 1013 1013 := rg_toI c1298
          refine lv_iload hx hb dX4_holds_304 (lv_at hl 4 rfl) ?_
          refine lv_iload hx hb dX4_holds_306 (lv_at hl 0 rfl) ?_
          refine lv_sipush (v := 999) hx hb dX4_holds_308 (by decide) ?_
          refine lv_icmp_gt (tgt := 319) hx hb dX4_holds_311 (by decide) (fun _ => ?_) (fun c1386 => absurd (rg_gt k1380 (rg_lit (n := 999) (by decide)) (by decide)) c1386)
          refine lv_aload_n hx hb dX4_holds_319 rfl (lv_at hl 7 rfl) ?_
          refine va_get (D := D) (ci := 4) (v := .ref b4) (C := RX4) (T := TX4) (N := 4) hx hb hts iG_X4 hown hK hP 0 rfl rfl 3 (by decide) (hts _ w25_3) (fun _ h9 => h9) rfl dX4_holds_320 ?_
          refine lv_iload hx hb dX4_holds_323 (lv_at hl 0 rfl) ?_
          refine lv_sipush (v := 1010) hx hb dX4_holds_325 (by decide) ?_
          refine lv_isub hx hb dX4_holds_328 ?_
          refine lv_topi (fun x1387 ex1387 => ?_)
          have k1388 : Rg x1387 3 3 := rg_sub ex1387 k1380 (rg_lit (n := 1010) (by decide)) (by decide)
          refine kpurei (wc := [(b4, kcI cI 28 e4)]) hP hD hS hA [4] rfl (by decide) (fun hPc hDc hFc => va_runSN (As := [.ref b4, .int x1387]) (rest := [.int y1053]) ⟨hx, hb, hml, hown, hts⟩ (z_valueAt l D cI cJ cB cC b4 28 e4 x1387 H.size) ⟨va_cnB 2 hts gX4_holds_X10_valueAt_n32 rfl rfl rfl (nM_24 hN) (hts _ w0_2) hdX10_valueAt ⟨Nat.le_of_ble_eq_true rfl, Nat.le_of_ble_eq_true rfl⟩, hts _ w8_9, trivial⟩ ⟨kBlind, fun U hU hW => ⟨rfl, by rw [hU], hN.warm hW, hE.pass hS hFc hW hU, by rw [hU]; exact hPc, va_K.moved hW.alike hK, hDc⟩⟩ rfl rfl hl.1 rfl (lv_room (Nat.le_of_ble_eq_true rfl)) dX4_holds_329 ⟨Nat.le_of_ble_eq_true rfl, Nat.le_of_ble_eq_true rfl⟩) (fun r1389 u H locs hw hP hS => ?_)
          have k1390 := hw
          refine lv_iadd hx hb dX4_holds_332 ?_
          refine lv_topi (fun x1391 ex1391 => ?_)
          refine lv_istore (lv' := [(4, .int x1391), (8, .int x1068), (7, .int y1052), (6, .int x12), (5, .int z9), (3, .int y1054), (2, .int y1055), (0, .ref l0), (1, .int a1)]) hx hb dX4_holds_333 hl (by decide) rfl (fun ls hl => ?_)
          exact hJ335 (x1391, y1054, y1055) _ _ _ ⟨(kC_eq rfl (kC_eq rfl (kC_eq rfl (kif_f (xF_le c1057) (kLet_eq (ke_ld ex1068) (kif_f c1277 (kif_f (fun q9 => absurd (c1298.symm.trans q9) (by decide)) (kif_f (fun q9 => absurd (c1298.symm.trans q9) (by decide)) (kif_f (fun q9 => absurd (c1298.symm.trans q9) (by decide)) (kif_f (fun q9 => absurd (c1298.symm.trans q9) (by decide)) (kif_f (fun q9 => absurd (c1298.symm.trans q9) (by decide)) (kif_f (fun q9 => absurd (c1298.symm.trans q9) (by decide)) (kif_f (fun q9 => absurd (c1298.symm.trans q9) (by decide)) (kif_f (fun q9 => absurd (c1298.symm.trans q9) (by decide)) (kif_t c1298 (kLet_eq (ti_sub ex1387 k1380 (rg_lit (n := 1010) (by decide)) (by decide) rfl rfl) (kLet_eq (k1390).symm (kLet_eq (ke_wadd ex1391) rfl)))))))))))))))))), hP.sub (ws' := [(l0, oX4 b1 b2 b3 b4), (b1, kcI cI N1 e1), (b2, kcI cI N2 e2), (b3, kcI cI N3 e3), (b4, kcI cI 28 e4)]) [0, 1, 2, 3, 4] rfl, hD.sub (ws' := [(l0, oX4 b1 b2 b3 b4), (b1, kcI cI N1 e1), (b2, kcI cI N2 e2), (b3, kcI cI N3 e3), (b4, kcI cI 28 e4)]) [0, 1, 2, 3, 4] (by decide) rfl, hS, lv_sub (l' := [(8, .int x1068), (7, .int y1052), (6, .int x12), (5, .int z9), (4, .int x1391), (3, .int y1054), (2, .int y1055), (0, .ref l0), (1, .int a1)]) hl [1, 2, 3, 4, 0, 5, 6, 7, 8] rfl⟩
        · skip
          refine lv_tableIn (tgt := 304) (off := 233) hx hb dX4_holds_71 (by rw [c1298]; decide) (by rw [c1298]; decide) (by rw [c1298]; rfl) (by decide) ?_
          have k1392 : Rg x1068 1014 1014 := rg_toI c1298
          refine lv_iload hx hb dX4_holds_304 (lv_at hl 4 rfl) ?_
          refine lv_iload hx hb dX4_holds_306 (lv_at hl 0 rfl) ?_
          refine lv_sipush (v := 999) hx hb dX4_holds_308 (by decide) ?_
          refine lv_icmp_gt (tgt := 319) hx hb dX4_holds_311 (by decide) (fun _ => ?_) (fun c1398 => absurd (rg_gt k1392 (rg_lit (n := 999) (by decide)) (by decide)) c1398)
          refine lv_aload_n hx hb dX4_holds_319 rfl (lv_at hl 7 rfl) ?_
          refine va_get (D := D) (ci := 4) (v := .ref b4) (C := RX4) (T := TX4) (N := 4) hx hb hts iG_X4 hown hK hP 0 rfl rfl 3 (by decide) (hts _ w25_3) (fun _ h9 => h9) rfl dX4_holds_320 ?_
          refine lv_iload hx hb dX4_holds_323 (lv_at hl 0 rfl) ?_
          refine lv_sipush (v := 1010) hx hb dX4_holds_325 (by decide) ?_
          refine lv_isub hx hb dX4_holds_328 ?_
          refine lv_topi (fun x1399 ex1399 => ?_)
          have k1400 : Rg x1399 4 4 := rg_sub ex1399 k1392 (rg_lit (n := 1010) (by decide)) (by decide)
          refine kpurei (wc := [(b4, kcI cI 28 e4)]) hP hD hS hA [4] rfl (by decide) (fun hPc hDc hFc => va_runSN (As := [.ref b4, .int x1399]) (rest := [.int y1053]) ⟨hx, hb, hml, hown, hts⟩ (z_valueAt l D cI cJ cB cC b4 28 e4 x1399 H.size) ⟨va_cnB 2 hts gX4_holds_X10_valueAt_n32 rfl rfl rfl (nM_24 hN) (hts _ w0_2) hdX10_valueAt ⟨Nat.le_of_ble_eq_true rfl, Nat.le_of_ble_eq_true rfl⟩, hts _ w8_9, trivial⟩ ⟨kBlind, fun U hU hW => ⟨rfl, by rw [hU], hN.warm hW, hE.pass hS hFc hW hU, by rw [hU]; exact hPc, va_K.moved hW.alike hK, hDc⟩⟩ rfl rfl hl.1 rfl (lv_room (Nat.le_of_ble_eq_true rfl)) dX4_holds_329 ⟨Nat.le_of_ble_eq_true rfl, Nat.le_of_ble_eq_true rfl⟩) (fun r1401 u H locs hw hP hS => ?_)
          have k1402 := hw
          refine lv_iadd hx hb dX4_holds_332 ?_
          refine lv_topi (fun x1403 ex1403 => ?_)
          refine lv_istore (lv' := [(4, .int x1403), (8, .int x1068), (7, .int y1052), (6, .int x12), (5, .int z9), (3, .int y1054), (2, .int y1055), (0, .ref l0), (1, .int a1)]) hx hb dX4_holds_333 hl (by decide) rfl (fun ls hl => ?_)
          exact hJ335 (x1403, y1054, y1055) _ _ _ ⟨(kC_eq rfl (kC_eq rfl (kC_eq rfl (kif_f (xF_le c1057) (kLet_eq (ke_ld ex1068) (kif_f c1277 (kif_f (fun q9 => absurd (c1298.symm.trans q9) (by decide)) (kif_f (fun q9 => absurd (c1298.symm.trans q9) (by decide)) (kif_f (fun q9 => absurd (c1298.symm.trans q9) (by decide)) (kif_f (fun q9 => absurd (c1298.symm.trans q9) (by decide)) (kif_f (fun q9 => absurd (c1298.symm.trans q9) (by decide)) (kif_f (fun q9 => absurd (c1298.symm.trans q9) (by decide)) (kif_f (fun q9 => absurd (c1298.symm.trans q9) (by decide)) (kif_f (fun q9 => absurd (c1298.symm.trans q9) (by decide)) (kif_f (fun q9 => absurd (c1298.symm.trans q9) (by decide)) (kif_t c1298 (kLet_eq (ti_sub ex1399 k1392 (rg_lit (n := 1010) (by decide)) (by decide) rfl rfl) (kLet_eq (k1402).symm (kLet_eq (ke_wadd ex1403) rfl))))))))))))))))))), hP.sub (ws' := [(l0, oX4 b1 b2 b3 b4), (b1, kcI cI N1 e1), (b2, kcI cI N2 e2), (b3, kcI cI N3 e3), (b4, kcI cI 28 e4)]) [0, 1, 2, 3, 4] rfl, hD.sub (ws' := [(l0, oX4 b1 b2 b3 b4), (b1, kcI cI N1 e1), (b2, kcI cI N2 e2), (b3, kcI cI N3 e3), (b4, kcI cI 28 e4)]) [0, 1, 2, 3, 4] (by decide) rfl, hS, lv_sub (l' := [(8, .int x1068), (7, .int y1052), (6, .int x12), (5, .int z9), (4, .int x1403), (3, .int y1054), (2, .int y1055), (0, .ref l0), (1, .int a1)]) hl [1, 2, 3, 4, 0, 5, 6, 7, 8] rfl⟩
        · skip
          refine lv_tableIn (tgt := 304) (off := 233) hx hb dX4_holds_71 (by rw [c1298]; decide) (by rw [c1298]; decide) (by rw [c1298]; rfl) (by decide) ?_
          have k1404 : Rg x1068 1015 1015 := rg_toI c1298
          refine lv_iload hx hb dX4_holds_304 (lv_at hl 4 rfl) ?_
          refine lv_iload hx hb dX4_holds_306 (lv_at hl 0 rfl) ?_
          refine lv_sipush (v := 999) hx hb dX4_holds_308 (by decide) ?_
          refine lv_icmp_gt (tgt := 319) hx hb dX4_holds_311 (by decide) (fun _ => ?_) (fun c1410 => absurd (rg_gt k1404 (rg_lit (n := 999) (by decide)) (by decide)) c1410)
          refine lv_aload_n hx hb dX4_holds_319 rfl (lv_at hl 7 rfl) ?_
          refine va_get (D := D) (ci := 4) (v := .ref b4) (C := RX4) (T := TX4) (N := 4) hx hb hts iG_X4 hown hK hP 0 rfl rfl 3 (by decide) (hts _ w25_3) (fun _ h9 => h9) rfl dX4_holds_320 ?_
          refine lv_iload hx hb dX4_holds_323 (lv_at hl 0 rfl) ?_
          refine lv_sipush (v := 1010) hx hb dX4_holds_325 (by decide) ?_
          refine lv_isub hx hb dX4_holds_328 ?_
          refine lv_topi (fun x1411 ex1411 => ?_)
          have k1412 : Rg x1411 5 5 := rg_sub ex1411 k1404 (rg_lit (n := 1010) (by decide)) (by decide)
          refine kpurei (wc := [(b4, kcI cI 28 e4)]) hP hD hS hA [4] rfl (by decide) (fun hPc hDc hFc => va_runSN (As := [.ref b4, .int x1411]) (rest := [.int y1053]) ⟨hx, hb, hml, hown, hts⟩ (z_valueAt l D cI cJ cB cC b4 28 e4 x1411 H.size) ⟨va_cnB 2 hts gX4_holds_X10_valueAt_n32 rfl rfl rfl (nM_24 hN) (hts _ w0_2) hdX10_valueAt ⟨Nat.le_of_ble_eq_true rfl, Nat.le_of_ble_eq_true rfl⟩, hts _ w8_9, trivial⟩ ⟨kBlind, fun U hU hW => ⟨rfl, by rw [hU], hN.warm hW, hE.pass hS hFc hW hU, by rw [hU]; exact hPc, va_K.moved hW.alike hK, hDc⟩⟩ rfl rfl hl.1 rfl (lv_room (Nat.le_of_ble_eq_true rfl)) dX4_holds_329 ⟨Nat.le_of_ble_eq_true rfl, Nat.le_of_ble_eq_true rfl⟩) (fun r1413 u H locs hw hP hS => ?_)
          have k1414 := hw
          refine lv_iadd hx hb dX4_holds_332 ?_
          refine lv_topi (fun x1415 ex1415 => ?_)
          refine lv_istore (lv' := [(4, .int x1415), (8, .int x1068), (7, .int y1052), (6, .int x12), (5, .int z9), (3, .int y1054), (2, .int y1055), (0, .ref l0), (1, .int a1)]) hx hb dX4_holds_333 hl (by decide) rfl (fun ls hl => ?_)
          exact hJ335 (x1415, y1054, y1055) _ _ _ ⟨(kC_eq rfl (kC_eq rfl (kC_eq rfl (kif_f (xF_le c1057) (kLet_eq (ke_ld ex1068) (kif_f c1277 (kif_f (fun q9 => absurd (c1298.symm.trans q9) (by decide)) (kif_f (fun q9 => absurd (c1298.symm.trans q9) (by decide)) (kif_f (fun q9 => absurd (c1298.symm.trans q9) (by decide)) (kif_f (fun q9 => absurd (c1298.symm.trans q9) (by decide)) (kif_f (fun q9 => absurd (c1298.symm.trans q9) (by decide)) (kif_f (fun q9 => absurd (c1298.symm.trans q9) (by decide)) (kif_f (fun q9 => absurd (c1298.symm.trans q9) (by decide)) (kif_f (fun q9 => absurd (c1298.symm.trans q9) (by decide)) (kif_f (fun q9 => absurd (c1298.symm.trans q9) (by decide)) (kif_f (fun q9 => absurd (c1298.symm.trans q9) (by decide)) (kif_t c1298 (kLet_eq (ti_sub ex1411 k1404 (rg_lit (n := 1010) (by decide)) (by decide) rfl rfl) (kLet_eq (k1414).symm (kLet_eq (ke_wadd ex1415) rfl)))))))))))))))))))), hP.sub (ws' := [(l0, oX4 b1 b2 b3 b4), (b1, kcI cI N1 e1), (b2, kcI cI N2 e2), (b3, kcI cI N3 e3), (b4, kcI cI 28 e4)]) [0, 1, 2, 3, 4] rfl, hD.sub (ws' := [(l0, oX4 b1 b2 b3 b4), (b1, kcI cI N1 e1), (b2, kcI cI N2 e2), (b3, kcI cI N3 e3), (b4, kcI cI 28 e4)]) [0, 1, 2, 3, 4] (by decide) rfl, hS, lv_sub (l' := [(8, .int x1068), (7, .int y1052), (6, .int x12), (5, .int z9), (4, .int x1415), (3, .int y1054), (2, .int y1055), (0, .ref l0), (1, .int a1)]) hl [1, 2, 3, 4, 0, 5, 6, 7, 8] rfl⟩
        · skip
          refine lv_tableIn (tgt := 304) (off := 233) hx hb dX4_holds_71 (by rw [c1298]; decide) (by rw [c1298]; decide) (by rw [c1298]; rfl) (by decide) ?_
          have k1416 : Rg x1068 1016 1016 := rg_toI c1298
          refine lv_iload hx hb dX4_holds_304 (lv_at hl 4 rfl) ?_
          refine lv_iload hx hb dX4_holds_306 (lv_at hl 0 rfl) ?_
          refine lv_sipush (v := 999) hx hb dX4_holds_308 (by decide) ?_
          refine lv_icmp_gt (tgt := 319) hx hb dX4_holds_311 (by decide) (fun _ => ?_) (fun c1422 => absurd (rg_gt k1416 (rg_lit (n := 999) (by decide)) (by decide)) c1422)
          refine lv_aload_n hx hb dX4_holds_319 rfl (lv_at hl 7 rfl) ?_
          refine va_get (D := D) (ci := 4) (v := .ref b4) (C := RX4) (T := TX4) (N := 4) hx hb hts iG_X4 hown hK hP 0 rfl rfl 3 (by decide) (hts _ w25_3) (fun _ h9 => h9) rfl dX4_holds_320 ?_
          refine lv_iload hx hb dX4_holds_323 (lv_at hl 0 rfl) ?_
          refine lv_sipush (v := 1010) hx hb dX4_holds_325 (by decide) ?_
          refine lv_isub hx hb dX4_holds_328 ?_
          refine lv_topi (fun x1423 ex1423 => ?_)
          have k1424 : Rg x1423 6 6 := rg_sub ex1423 k1416 (rg_lit (n := 1010) (by decide)) (by decide)
          refine kpurei (wc := [(b4, kcI cI 28 e4)]) hP hD hS hA [4] rfl (by decide) (fun hPc hDc hFc => va_runSN (As := [.ref b4, .int x1423]) (rest := [.int y1053]) ⟨hx, hb, hml, hown, hts⟩ (z_valueAt l D cI cJ cB cC b4 28 e4 x1423 H.size) ⟨va_cnB 2 hts gX4_holds_X10_valueAt_n32 rfl rfl rfl (nM_24 hN) (hts _ w0_2) hdX10_valueAt ⟨Nat.le_of_ble_eq_true rfl, Nat.le_of_ble_eq_true rfl⟩, hts _ w8_9, trivial⟩ ⟨kBlind, fun U hU hW => ⟨rfl, by rw [hU], hN.warm hW, hE.pass hS hFc hW hU, by rw [hU]; exact hPc, va_K.moved hW.alike hK, hDc⟩⟩ rfl rfl hl.1 rfl (lv_room (Nat.le_of_ble_eq_true rfl)) dX4_holds_329 ⟨Nat.le_of_ble_eq_true rfl, Nat.le_of_ble_eq_true rfl⟩) (fun r1425 u H locs hw hP hS => ?_)
          have k1426 := hw
          refine lv_iadd hx hb dX4_holds_332 ?_
          refine lv_topi (fun x1427 ex1427 => ?_)
          refine lv_istore (lv' := [(4, .int x1427), (8, .int x1068), (7, .int y1052), (6, .int x12), (5, .int z9), (3, .int y1054), (2, .int y1055), (0, .ref l0), (1, .int a1)]) hx hb dX4_holds_333 hl (by decide) rfl (fun ls hl => ?_)
          exact hJ335 (x1427, y1054, y1055) _ _ _ ⟨(kC_eq rfl (kC_eq rfl (kC_eq rfl (kif_f (xF_le c1057) (kLet_eq (ke_ld ex1068) (kif_f c1277 (kif_f (fun q9 => absurd (c1298.symm.trans q9) (by decide)) (kif_f (fun q9 => absurd (c1298.symm.trans q9) (by decide)) (kif_f (fun q9 => absurd (c1298.symm.trans q9) (by decide)) (kif_f (fun q9 => absurd (c1298.symm.trans q9) (by decide)) (kif_f (fun q9 => absurd (c1298.symm.trans q9) (by decide)) (kif_f (fun q9 => absurd (c1298.symm.trans q9) (by decide)) (kif_f (fun q9 => absurd (c1298.symm.trans q9) (by decide)) (kif_f (fun q9 => absurd (c1298.symm.trans q9) (by decide)) (kif_f (fun q9 => absurd (c1298.symm.trans q9) (by decide)) (kif_f (fun q9 => absurd (c1298.symm.trans q9) (by decide)) (kif_f (fun q9 => absurd (c1298.symm.trans q9) (by decide)) (kif_t c1298 (kLet_eq (ti_sub ex1423 k1416 (rg_lit (n := 1010) (by decide)) (by decide) rfl rfl) (kLet_eq (k1426).symm (kLet_eq (ke_wadd ex1427) rfl))))))))))))))))))))), hP.sub (ws' := [(l0, oX4 b1 b2 b3 b4), (b1, kcI cI N1 e1), (b2, kcI cI N2 e2), (b3, kcI cI N3 e3), (b4, kcI cI 28 e4)]) [0, 1, 2, 3, 4] rfl, hD.sub (ws' := [(l0, oX4 b1 b2 b3 b4), (b1, kcI cI N1 e1), (b2, kcI cI N2 e2), (b3, kcI cI N3 e3), (b4, kcI cI 28 e4)]) [0, 1, 2, 3, 4] (by decide) rfl, hS, lv_sub (l' := [(8, .int x1068), (7, .int y1052), (6, .int x12), (5, .int z9), (4, .int x1427), (3, .int y1054), (2, .int y1055), (0, .ref l0), (1, .int a1)]) hl [1, 2, 3, 4, 0, 5, 6, 7, 8] rfl⟩
        · skip
          refine lv_tableIn (tgt := 304) (off := 233) hx hb dX4_holds_71 (by rw [c1298]; decide) (by rw [c1298]; decide) (by rw [c1298]; rfl) (by decide) ?_
          have k1428 : Rg x1068 1017 1017 := rg_toI c1298
          refine lv_iload hx hb dX4_holds_304 (lv_at hl 4 rfl) ?_
          refine lv_iload hx hb dX4_holds_306 (lv_at hl 0 rfl) ?_
          refine lv_sipush (v := 999) hx hb dX4_holds_308 (by decide) ?_
          refine lv_icmp_gt (tgt := 319) hx hb dX4_holds_311 (by decide) (fun _ => ?_) (fun c1434 => absurd (rg_gt k1428 (rg_lit (n := 999) (by decide)) (by decide)) c1434)
          refine lv_aload_n hx hb dX4_holds_319 rfl (lv_at hl 7 rfl) ?_
          refine va_get (D := D) (ci := 4) (v := .ref b4) (C := RX4) (T := TX4) (N := 4) hx hb hts iG_X4 hown hK hP 0 rfl rfl 3 (by decide) (hts _ w25_3) (fun _ h9 => h9) rfl dX4_holds_320 ?_
          refine lv_iload hx hb dX4_holds_323 (lv_at hl 0 rfl) ?_
          refine lv_sipush (v := 1010) hx hb dX4_holds_325 (by decide) ?_
          refine lv_isub hx hb dX4_holds_328 ?_
          refine lv_topi (fun x1435 ex1435 => ?_)
          have k1436 : Rg x1435 7 7 := rg_sub ex1435 k1428 (rg_lit (n := 1010) (by decide)) (by decide)
          refine kpurei (wc := [(b4, kcI cI 28 e4)]) hP hD hS hA [4] rfl (by decide) (fun hPc hDc hFc => va_runSN (As := [.ref b4, .int x1435]) (rest := [.int y1053]) ⟨hx, hb, hml, hown, hts⟩ (z_valueAt l D cI cJ cB cC b4 28 e4 x1435 H.size) ⟨va_cnB 2 hts gX4_holds_X10_valueAt_n32 rfl rfl rfl (nM_24 hN) (hts _ w0_2) hdX10_valueAt ⟨Nat.le_of_ble_eq_true rfl, Nat.le_of_ble_eq_true rfl⟩, hts _ w8_9, trivial⟩ ⟨kBlind, fun U hU hW => ⟨rfl, by rw [hU], hN.warm hW, hE.pass hS hFc hW hU, by rw [hU]; exact hPc, va_K.moved hW.alike hK, hDc⟩⟩ rfl rfl hl.1 rfl (lv_room (Nat.le_of_ble_eq_true rfl)) dX4_holds_329 ⟨Nat.le_of_ble_eq_true rfl, Nat.le_of_ble_eq_true rfl⟩) (fun r1437 u H locs hw hP hS => ?_)
          have k1438 := hw
          refine lv_iadd hx hb dX4_holds_332 ?_
          refine lv_topi (fun x1439 ex1439 => ?_)
          refine lv_istore (lv' := [(4, .int x1439), (8, .int x1068), (7, .int y1052), (6, .int x12), (5, .int z9), (3, .int y1054), (2, .int y1055), (0, .ref l0), (1, .int a1)]) hx hb dX4_holds_333 hl (by decide) rfl (fun ls hl => ?_)
          exact hJ335 (x1439, y1054, y1055) _ _ _ ⟨(kC_eq rfl (kC_eq rfl (kC_eq rfl (kif_f (xF_le c1057) (kLet_eq (ke_ld ex1068) (kif_f c1277 (kif_f (fun q9 => absurd (c1298.symm.trans q9) (by decide)) (kif_f (fun q9 => absurd (c1298.symm.trans q9) (by decide)) (kif_f (fun q9 => absurd (c1298.symm.trans q9) (by decide)) (kif_f (fun q9 => absurd (c1298.symm.trans q9) (by decide)) (kif_f (fun q9 => absurd (c1298.symm.trans q9) (by decide)) (kif_f (fun q9 => absurd (c1298.symm.trans q9) (by decide)) (kif_f (fun q9 => absurd (c1298.symm.trans q9) (by decide)) (kif_f (fun q9 => absurd (c1298.symm.trans q9) (by decide)) (kif_f (fun q9 => absurd (c1298.symm.trans q9) (by decide)) (kif_f (fun q9 => absurd (c1298.symm.trans q9) (by decide)) (kif_f (fun q9 => absurd (c1298.symm.trans q9) (by decide)) (kif_f (fun q9 => absurd (c1298.symm.trans q9) (by decide)) (kif_t c1298 (kLet_eq (ti_sub ex1435 k1428 (rg_lit (n := 1010) (by decide)) (by decide) rfl rfl) (kLet_eq (k1438).symm (kLet_eq (ke_wadd ex1439) rfl)))))))))))))))))))))), hP.sub (ws' := [(l0, oX4 b1 b2 b3 b4), (b1, kcI cI N1 e1), (b2, kcI cI N2 e2), (b3, kcI cI N3 e3), (b4, kcI cI 28 e4)]) [0, 1, 2, 3, 4] rfl, hD.sub (ws' := [(l0, oX4 b1 b2 b3 b4), (b1, kcI cI N1 e1), (b2, kcI cI N2 e2), (b3, kcI cI N3 e3), (b4, kcI cI 28 e4)]) [0, 1, 2, 3, 4] (by decide) rfl, hS, lv_sub (l' := [(8, .int x1068), (7, .int y1052), (6, .int x12), (5, .int z9), (4, .int x1439), (3, .int y1054), (2, .int y1055), (0, .ref l0), (1, .int a1)]) hl [1, 2, 3, 4, 0, 5, 6, 7, 8] rfl⟩
        · skip
          refine lv_tableIn (tgt := 304) (off := 233) hx hb dX4_holds_71 (by rw [c1298]; decide) (by rw [c1298]; decide) (by rw [c1298]; rfl) (by decide) ?_
          have k1440 : Rg x1068 1018 1018 := rg_toI c1298
          refine lv_iload hx hb dX4_holds_304 (lv_at hl 4 rfl) ?_
          refine lv_iload hx hb dX4_holds_306 (lv_at hl 0 rfl) ?_
          refine lv_sipush (v := 999) hx hb dX4_holds_308 (by decide) ?_
          refine lv_icmp_gt (tgt := 319) hx hb dX4_holds_311 (by decide) (fun _ => ?_) (fun c1446 => absurd (rg_gt k1440 (rg_lit (n := 999) (by decide)) (by decide)) c1446)
          refine lv_aload_n hx hb dX4_holds_319 rfl (lv_at hl 7 rfl) ?_
          refine va_get (D := D) (ci := 4) (v := .ref b4) (C := RX4) (T := TX4) (N := 4) hx hb hts iG_X4 hown hK hP 0 rfl rfl 3 (by decide) (hts _ w25_3) (fun _ h9 => h9) rfl dX4_holds_320 ?_
          refine lv_iload hx hb dX4_holds_323 (lv_at hl 0 rfl) ?_
          refine lv_sipush (v := 1010) hx hb dX4_holds_325 (by decide) ?_
          refine lv_isub hx hb dX4_holds_328 ?_
          refine lv_topi (fun x1447 ex1447 => ?_)
          have k1448 : Rg x1447 8 8 := rg_sub ex1447 k1440 (rg_lit (n := 1010) (by decide)) (by decide)
          refine kpurei (wc := [(b4, kcI cI 28 e4)]) hP hD hS hA [4] rfl (by decide) (fun hPc hDc hFc => va_runSN (As := [.ref b4, .int x1447]) (rest := [.int y1053]) ⟨hx, hb, hml, hown, hts⟩ (z_valueAt l D cI cJ cB cC b4 28 e4 x1447 H.size) ⟨va_cnB 2 hts gX4_holds_X10_valueAt_n32 rfl rfl rfl (nM_24 hN) (hts _ w0_2) hdX10_valueAt ⟨Nat.le_of_ble_eq_true rfl, Nat.le_of_ble_eq_true rfl⟩, hts _ w8_9, trivial⟩ ⟨kBlind, fun U hU hW => ⟨rfl, by rw [hU], hN.warm hW, hE.pass hS hFc hW hU, by rw [hU]; exact hPc, va_K.moved hW.alike hK, hDc⟩⟩ rfl rfl hl.1 rfl (lv_room (Nat.le_of_ble_eq_true rfl)) dX4_holds_329 ⟨Nat.le_of_ble_eq_true rfl, Nat.le_of_ble_eq_true rfl⟩) (fun r1449 u H locs hw hP hS => ?_)
          have k1450 := hw
          refine lv_iadd hx hb dX4_holds_332 ?_
          refine lv_topi (fun x1451 ex1451 => ?_)
          refine lv_istore (lv' := [(4, .int x1451), (8, .int x1068), (7, .int y1052), (6, .int x12), (5, .int z9), (3, .int y1054), (2, .int y1055), (0, .ref l0), (1, .int a1)]) hx hb dX4_holds_333 hl (by decide) rfl (fun ls hl => ?_)
          exact hJ335 (x1451, y1054, y1055) _ _ _ ⟨(kC_eq rfl (kC_eq rfl (kC_eq rfl (kif_f (xF_le c1057) (kLet_eq (ke_ld ex1068) (kif_f c1277 (kif_f (fun q9 => absurd (c1298.symm.trans q9) (by decide)) (kif_f (fun q9 => absurd (c1298.symm.trans q9) (by decide)) (kif_f (fun q9 => absurd (c1298.symm.trans q9) (by decide)) (kif_f (fun q9 => absurd (c1298.symm.trans q9) (by decide)) (kif_f (fun q9 => absurd (c1298.symm.trans q9) (by decide)) (kif_f (fun q9 => absurd (c1298.symm.trans q9) (by decide)) (kif_f (fun q9 => absurd (c1298.symm.trans q9) (by decide)) (kif_f (fun q9 => absurd (c1298.symm.trans q9) (by decide)) (kif_f (fun q9 => absurd (c1298.symm.trans q9) (by decide)) (kif_f (fun q9 => absurd (c1298.symm.trans q9) (by decide)) (kif_f (fun q9 => absurd (c1298.symm.trans q9) (by decide)) (kif_f (fun q9 => absurd (c1298.symm.trans q9) (by decide)) (kif_f (fun q9 => absurd (c1298.symm.trans q9) (by decide)) (kif_t c1298 (kLet_eq (ti_sub ex1447 k1440 (rg_lit (n := 1010) (by decide)) (by decide) rfl rfl) (kLet_eq (k1450).symm (kLet_eq (ke_wadd ex1451) rfl))))))))))))))))))))))), hP.sub (ws' := [(l0, oX4 b1 b2 b3 b4), (b1, kcI cI N1 e1), (b2, kcI cI N2 e2), (b3, kcI cI N3 e3), (b4, kcI cI 28 e4)]) [0, 1, 2, 3, 4] rfl, hD.sub (ws' := [(l0, oX4 b1 b2 b3 b4), (b1, kcI cI N1 e1), (b2, kcI cI N2 e2), (b3, kcI cI N3 e3), (b4, kcI cI 28 e4)]) [0, 1, 2, 3, 4] (by decide) rfl, hS, lv_sub (l' := [(8, .int x1068), (7, .int y1052), (6, .int x12), (5, .int z9), (4, .int x1451), (3, .int y1054), (2, .int y1055), (0, .ref l0), (1, .int a1)]) hl [1, 2, 3, 4, 0, 5, 6, 7, 8] rfl⟩
        · skip
          refine lv_tableIn (tgt := 304) (off := 233) hx hb dX4_holds_71 (by rw [c1298]; decide) (by rw [c1298]; decide) (by rw [c1298]; rfl) (by decide) ?_
          have k1452 : Rg x1068 1019 1019 := rg_toI c1298
          refine lv_iload hx hb dX4_holds_304 (lv_at hl 4 rfl) ?_
          refine lv_iload hx hb dX4_holds_306 (lv_at hl 0 rfl) ?_
          refine lv_sipush (v := 999) hx hb dX4_holds_308 (by decide) ?_
          refine lv_icmp_gt (tgt := 319) hx hb dX4_holds_311 (by decide) (fun _ => ?_) (fun c1458 => absurd (rg_gt k1452 (rg_lit (n := 999) (by decide)) (by decide)) c1458)
          refine lv_aload_n hx hb dX4_holds_319 rfl (lv_at hl 7 rfl) ?_
          refine va_get (D := D) (ci := 4) (v := .ref b4) (C := RX4) (T := TX4) (N := 4) hx hb hts iG_X4 hown hK hP 0 rfl rfl 3 (by decide) (hts _ w25_3) (fun _ h9 => h9) rfl dX4_holds_320 ?_
          refine lv_iload hx hb dX4_holds_323 (lv_at hl 0 rfl) ?_
          refine lv_sipush (v := 1010) hx hb dX4_holds_325 (by decide) ?_
          refine lv_isub hx hb dX4_holds_328 ?_
          refine lv_topi (fun x1459 ex1459 => ?_)
          have k1460 : Rg x1459 9 9 := rg_sub ex1459 k1452 (rg_lit (n := 1010) (by decide)) (by decide)
          refine kpurei (wc := [(b4, kcI cI 28 e4)]) hP hD hS hA [4] rfl (by decide) (fun hPc hDc hFc => va_runSN (As := [.ref b4, .int x1459]) (rest := [.int y1053]) ⟨hx, hb, hml, hown, hts⟩ (z_valueAt l D cI cJ cB cC b4 28 e4 x1459 H.size) ⟨va_cnB 2 hts gX4_holds_X10_valueAt_n32 rfl rfl rfl (nM_24 hN) (hts _ w0_2) hdX10_valueAt ⟨Nat.le_of_ble_eq_true rfl, Nat.le_of_ble_eq_true rfl⟩, hts _ w8_9, trivial⟩ ⟨kBlind, fun U hU hW => ⟨rfl, by rw [hU], hN.warm hW, hE.pass hS hFc hW hU, by rw [hU]; exact hPc, va_K.moved hW.alike hK, hDc⟩⟩ rfl rfl hl.1 rfl (lv_room (Nat.le_of_ble_eq_true rfl)) dX4_holds_329 ⟨Nat.le_of_ble_eq_true rfl, Nat.le_of_ble_eq_true rfl⟩) (fun r1461 u H locs hw hP hS => ?_)
          have k1462 := hw
          refine lv_iadd hx hb dX4_holds_332 ?_
          refine lv_topi (fun x1463 ex1463 => ?_)
          refine lv_istore (lv' := [(4, .int x1463), (8, .int x1068), (7, .int y1052), (6, .int x12), (5, .int z9), (3, .int y1054), (2, .int y1055), (0, .ref l0), (1, .int a1)]) hx hb dX4_holds_333 hl (by decide) rfl (fun ls hl => ?_)
          exact hJ335 (x1463, y1054, y1055) _ _ _ ⟨(kC_eq rfl (kC_eq rfl (kC_eq rfl (kif_f (xF_le c1057) (kLet_eq (ke_ld ex1068) (kif_f c1277 (kif_f (fun q9 => absurd (c1298.symm.trans q9) (by decide)) (kif_f (fun q9 => absurd (c1298.symm.trans q9) (by decide)) (kif_f (fun q9 => absurd (c1298.symm.trans q9) (by decide)) (kif_f (fun q9 => absurd (c1298.symm.trans q9) (by decide)) (kif_f (fun q9 => absurd (c1298.symm.trans q9) (by decide)) (kif_f (fun q9 => absurd (c1298.symm.trans q9) (by decide)) (kif_f (fun q9 => absurd (c1298.symm.trans q9) (by decide)) (kif_f (fun q9 => absurd (c1298.symm.trans q9) (by decide)) (kif_f (fun q9 => absurd (c1298.symm.trans q9) (by decide)) (kif_f (fun q9 => absurd (c1298.symm.trans q9) (by decide)) (kif_f (fun q9 => absurd (c1298.symm.trans q9) (by decide)) (kif_f (fun q9 => absurd (c1298.symm.trans q9) (by decide)) (kif_f (fun q9 => absurd (c1298.symm.trans q9) (by decide)) (kif_f (fun q9 => absurd (c1298.symm.trans q9) (by decide)) (kif_t c1298 (kLet_eq (ti_sub ex1459 k1452 (rg_lit (n := 1010) (by decide)) (by decide) rfl rfl) (kLet_eq (k1462).symm (kLet_eq (ke_wadd ex1463) rfl)))))))))))))))))))))))), hP.sub (ws' := [(l0, oX4 b1 b2 b3 b4), (b1, kcI cI N1 e1), (b2, kcI cI N2 e2), (b3, kcI cI N3 e3), (b4, kcI cI 28 e4)]) [0, 1, 2, 3, 4] rfl, hD.sub (ws' := [(l0, oX4 b1 b2 b3 b4), (b1, kcI cI N1 e1), (b2, kcI cI N2 e2), (b3, kcI cI N3 e3), (b4, kcI cI 28 e4)]) [0, 1, 2, 3, 4] (by decide) rfl, hS, lv_sub (l' := [(8, .int x1068), (7, .int y1052), (6, .int x12), (5, .int z9), (4, .int x1463), (3, .int y1054), (2, .int y1055), (0, .ref l0), (1, .int a1)]) hl [1, 2, 3, 4, 0, 5, 6, 7, 8] rfl⟩
        · skip
          refine lv_tableIn (tgt := 304) (off := 233) hx hb dX4_holds_71 (by rw [c1298]; decide) (by rw [c1298]; decide) (by rw [c1298]; rfl) (by decide) ?_
          have k1464 : Rg x1068 1020 1020 := rg_toI c1298
          refine lv_iload hx hb dX4_holds_304 (lv_at hl 4 rfl) ?_
          refine lv_iload hx hb dX4_holds_306 (lv_at hl 0 rfl) ?_
          refine lv_sipush (v := 999) hx hb dX4_holds_308 (by decide) ?_
          refine lv_icmp_gt (tgt := 319) hx hb dX4_holds_311 (by decide) (fun _ => ?_) (fun c1470 => absurd (rg_gt k1464 (rg_lit (n := 999) (by decide)) (by decide)) c1470)
          refine lv_aload_n hx hb dX4_holds_319 rfl (lv_at hl 7 rfl) ?_
          refine va_get (D := D) (ci := 4) (v := .ref b4) (C := RX4) (T := TX4) (N := 4) hx hb hts iG_X4 hown hK hP 0 rfl rfl 3 (by decide) (hts _ w25_3) (fun _ h9 => h9) rfl dX4_holds_320 ?_
          refine lv_iload hx hb dX4_holds_323 (lv_at hl 0 rfl) ?_
          refine lv_sipush (v := 1010) hx hb dX4_holds_325 (by decide) ?_
          refine lv_isub hx hb dX4_holds_328 ?_
          refine lv_topi (fun x1471 ex1471 => ?_)
          have k1472 : Rg x1471 10 10 := rg_sub ex1471 k1464 (rg_lit (n := 1010) (by decide)) (by decide)
          refine kpurei (wc := [(b4, kcI cI 28 e4)]) hP hD hS hA [4] rfl (by decide) (fun hPc hDc hFc => va_runSN (As := [.ref b4, .int x1471]) (rest := [.int y1053]) ⟨hx, hb, hml, hown, hts⟩ (z_valueAt l D cI cJ cB cC b4 28 e4 x1471 H.size) ⟨va_cnB 2 hts gX4_holds_X10_valueAt_n32 rfl rfl rfl (nM_24 hN) (hts _ w0_2) hdX10_valueAt ⟨Nat.le_of_ble_eq_true rfl, Nat.le_of_ble_eq_true rfl⟩, hts _ w8_9, trivial⟩ ⟨kBlind, fun U hU hW => ⟨rfl, by rw [hU], hN.warm hW, hE.pass hS hFc hW hU, by rw [hU]; exact hPc, va_K.moved hW.alike hK, hDc⟩⟩ rfl rfl hl.1 rfl (lv_room (Nat.le_of_ble_eq_true rfl)) dX4_holds_329 ⟨Nat.le_of_ble_eq_true rfl, Nat.le_of_ble_eq_true rfl⟩) (fun r1473 u H locs hw hP hS => ?_)
          have k1474 := hw
          refine lv_iadd hx hb dX4_holds_332 ?_
          refine lv_topi (fun x1475 ex1475 => ?_)
          refine lv_istore (lv' := [(4, .int x1475), (8, .int x1068), (7, .int y1052), (6, .int x12), (5, .int z9), (3, .int y1054), (2, .int y1055), (0, .ref l0), (1, .int a1)]) hx hb dX4_holds_333 hl (by decide) rfl (fun ls hl => ?_)
          exact hJ335 (x1475, y1054, y1055) _ _ _ ⟨(kC_eq rfl (kC_eq rfl (kC_eq rfl (kif_f (xF_le c1057) (kLet_eq (ke_ld ex1068) (kif_f c1277 (kif_f (fun q9 => absurd (c1298.symm.trans q9) (by decide)) (kif_f (fun q9 => absurd (c1298.symm.trans q9) (by decide)) (kif_f (fun q9 => absurd (c1298.symm.trans q9) (by decide)) (kif_f (fun q9 => absurd (c1298.symm.trans q9) (by decide)) (kif_f (fun q9 => absurd (c1298.symm.trans q9) (by decide)) (kif_f (fun q9 => absurd (c1298.symm.trans q9) (by decide)) (kif_f (fun q9 => absurd (c1298.symm.trans q9) (by decide)) (kif_f (fun q9 => absurd (c1298.symm.trans q9) (by decide)) (kif_f (fun q9 => absurd (c1298.symm.trans q9) (by decide)) (kif_f (fun q9 => absurd (c1298.symm.trans q9) (by decide)) (kif_f (fun q9 => absurd (c1298.symm.trans q9) (by decide)) (kif_f (fun q9 => absurd (c1298.symm.trans q9) (by decide)) (kif_f (fun q9 => absurd (c1298.symm.trans q9) (by decide)) (kif_f (fun q9 => absurd (c1298.symm.trans q9) (by decide)) (kif_f (fun q9 => absurd (c1298.symm.trans q9) (by decide)) (kif_t c1298 (kLet_eq (ti_sub ex1471 k1464 (rg_lit (n := 1010) (by decide)) (by decide) rfl rfl) (kLet_eq (k1474).symm (kLet_eq (ke_wadd ex1475) rfl))))))))))))))))))))))))), hP.sub (ws' := [(l0, oX4 b1 b2 b3 b4), (b1, kcI cI N1 e1), (b2, kcI cI N2 e2), (b3, kcI cI N3 e3), (b4, kcI cI 28 e4)]) [0, 1, 2, 3, 4] rfl, hD.sub (ws' := [(l0, oX4 b1 b2 b3 b4), (b1, kcI cI N1 e1), (b2, kcI cI N2 e2), (b3, kcI cI N3 e3), (b4, kcI cI 28 e4)]) [0, 1, 2, 3, 4] (by decide) rfl, hS, lv_sub (l' := [(8, .int x1068), (7, .int y1052), (6, .int x12), (5, .int z9), (4, .int x1475), (3, .int y1054), (2, .int y1055), (0, .ref l0), (1, .int a1)]) hl [1, 2, 3, 4, 0, 5, 6, 7, 8] rfl⟩
        · skip
          refine lv_tableIn (tgt := 304) (off := 233) hx hb dX4_holds_71 (by rw [c1298]; decide) (by rw [c1298]; decide) (by rw [c1298]; rfl) (by decide) ?_
          have k1476 : Rg x1068 1021 1021 := rg_toI c1298
          refine lv_iload hx hb dX4_holds_304 (lv_at hl 4 rfl) ?_
          refine lv_iload hx hb dX4_holds_306 (lv_at hl 0 rfl) ?_
          refine lv_sipush (v := 999) hx hb dX4_holds_308 (by decide) ?_
          refine lv_icmp_gt (tgt := 319) hx hb dX4_holds_311 (by decide) (fun _ => ?_) (fun c1482 => absurd (rg_gt k1476 (rg_lit (n := 999) (by decide)) (by decide)) c1482)
          refine lv_aload_n hx hb dX4_holds_319 rfl (lv_at hl 7 rfl) ?_
          refine va_get (D := D) (ci := 4) (v := .ref b4) (C := RX4) (T := TX4) (N := 4) hx hb hts iG_X4 hown hK hP 0 rfl rfl 3 (by decide) (hts _ w25_3) (fun _ h9 => h9) rfl dX4_holds_320 ?_
          refine lv_iload hx hb dX4_holds_323 (lv_at hl 0 rfl) ?_
          refine lv_sipush (v := 1010) hx hb dX4_holds_325 (by decide) ?_
          refine lv_isub hx hb dX4_holds_328 ?_
          refine lv_topi (fun x1483 ex1483 => ?_)
          have k1484 : Rg x1483 11 11 := rg_sub ex1483 k1476 (rg_lit (n := 1010) (by decide)) (by decide)
          refine kpurei (wc := [(b4, kcI cI 28 e4)]) hP hD hS hA [4] rfl (by decide) (fun hPc hDc hFc => va_runSN (As := [.ref b4, .int x1483]) (rest := [.int y1053]) ⟨hx, hb, hml, hown, hts⟩ (z_valueAt l D cI cJ cB cC b4 28 e4 x1483 H.size) ⟨va_cnB 2 hts gX4_holds_X10_valueAt_n32 rfl rfl rfl (nM_24 hN) (hts _ w0_2) hdX10_valueAt ⟨Nat.le_of_ble_eq_true rfl, Nat.le_of_ble_eq_true rfl⟩, hts _ w8_9, trivial⟩ ⟨kBlind, fun U hU hW => ⟨rfl, by rw [hU], hN.warm hW, hE.pass hS hFc hW hU, by rw [hU]; exact hPc, va_K.moved hW.alike hK, hDc⟩⟩ rfl rfl hl.1 rfl (lv_room (Nat.le_of_ble_eq_true rfl)) dX4_holds_329 ⟨Nat.le_of_ble_eq_true rfl, Nat.le_of_ble_eq_true rfl⟩) (fun r1485 u H locs hw hP hS => ?_)
          have k1486 := hw
          refine lv_iadd hx hb dX4_holds_332 ?_
          refine lv_topi (fun x1487 ex1487 => ?_)
          refine lv_istore (lv' := [(4, .int x1487), (8, .int x1068), (7, .int y1052), (6, .int x12), (5, .int z9), (3, .int y1054), (2, .int y1055), (0, .ref l0), (1, .int a1)]) hx hb dX4_holds_333 hl (by decide) rfl (fun ls hl => ?_)
          exact hJ335 (x1487, y1054, y1055) _ _ _ ⟨(kC_eq rfl (kC_eq rfl (kC_eq rfl (kif_f (xF_le c1057) (kLet_eq (ke_ld ex1068) (kif_f c1277 (kif_f (fun q9 => absurd (c1298.symm.trans q9) (by decide)) (kif_f (fun q9 => absurd (c1298.symm.trans q9) (by decide)) (kif_f (fun q9 => absurd (c1298.symm.trans q9) (by decide)) (kif_f (fun q9 => absurd (c1298.symm.trans q9) (by decide)) (kif_f (fun q9 => absurd (c1298.symm.trans q9) (by decide)) (kif_f (fun q9 => absurd (c1298.symm.trans q9) (by decide)) (kif_f (fun q9 => absurd (c1298.symm.trans q9) (by decide)) (kif_f (fun q9 => absurd (c1298.symm.trans q9) (by decide)) (kif_f (fun q9 => absurd (c1298.symm.trans q9) (by decide)) (kif_f (fun q9 => absurd (c1298.symm.trans q9) (by decide)) (kif_f (fun q9 => absurd (c1298.symm.trans q9) (by decide)) (kif_f (fun q9 => absurd (c1298.symm.trans q9) (by decide)) (kif_f (fun q9 => absurd (c1298.symm.trans q9) (by decide)) (kif_f (fun q9 => absurd (c1298.symm.trans q9) (by decide)) (kif_f (fun q9 => absurd (c1298.symm.trans q9) (by decide)) (kif_f (fun q9 => absurd (c1298.symm.trans q9) (by decide)) (kif_t c1298 (kLet_eq (ti_sub ex1483 k1476 (rg_lit (n := 1010) (by decide)) (by decide) rfl rfl) (kLet_eq (k1486).symm (kLet_eq (ke_wadd ex1487) rfl)))))))))))))))))))))))))), hP.sub (ws' := [(l0, oX4 b1 b2 b3 b4), (b1, kcI cI N1 e1), (b2, kcI cI N2 e2), (b3, kcI cI N3 e3), (b4, kcI cI 28 e4)]) [0, 1, 2, 3, 4] rfl, hD.sub (ws' := [(l0, oX4 b1 b2 b3 b4), (b1, kcI cI N1 e1), (b2, kcI cI N2 e2), (b3, kcI cI N3 e3), (b4, kcI cI 28 e4)]) [0, 1, 2, 3, 4] (by decide) rfl, hS, lv_sub (l' := [(8, .int x1068), (7, .int y1052), (6, .int x12), (5, .int z9), (4, .int x1487), (3, .int y1054), (2, .int y1055), (0, .ref l0), (1, .int a1)]) hl [1, 2, 3, 4, 0, 5, 6, 7, 8] rfl⟩
        · skip
          refine lv_tableIn (tgt := 304) (off := 233) hx hb dX4_holds_71 (by rw [c1298]; decide) (by rw [c1298]; decide) (by rw [c1298]; rfl) (by decide) ?_
          have k1488 : Rg x1068 1022 1022 := rg_toI c1298
          refine lv_iload hx hb dX4_holds_304 (lv_at hl 4 rfl) ?_
          refine lv_iload hx hb dX4_holds_306 (lv_at hl 0 rfl) ?_
          refine lv_sipush (v := 999) hx hb dX4_holds_308 (by decide) ?_
          refine lv_icmp_gt (tgt := 319) hx hb dX4_holds_311 (by decide) (fun _ => ?_) (fun c1494 => absurd (rg_gt k1488 (rg_lit (n := 999) (by decide)) (by decide)) c1494)
          refine lv_aload_n hx hb dX4_holds_319 rfl (lv_at hl 7 rfl) ?_
          refine va_get (D := D) (ci := 4) (v := .ref b4) (C := RX4) (T := TX4) (N := 4) hx hb hts iG_X4 hown hK hP 0 rfl rfl 3 (by decide) (hts _ w25_3) (fun _ h9 => h9) rfl dX4_holds_320 ?_
          refine lv_iload hx hb dX4_holds_323 (lv_at hl 0 rfl) ?_
          refine lv_sipush (v := 1010) hx hb dX4_holds_325 (by decide) ?_
          refine lv_isub hx hb dX4_holds_328 ?_
          refine lv_topi (fun x1495 ex1495 => ?_)
          have k1496 : Rg x1495 12 12 := rg_sub ex1495 k1488 (rg_lit (n := 1010) (by decide)) (by decide)
          refine kpurei (wc := [(b4, kcI cI 28 e4)]) hP hD hS hA [4] rfl (by decide) (fun hPc hDc hFc => va_runSN (As := [.ref b4, .int x1495]) (rest := [.int y1053]) ⟨hx, hb, hml, hown, hts⟩ (z_valueAt l D cI cJ cB cC b4 28 e4 x1495 H.size) ⟨va_cnB 2 hts gX4_holds_X10_valueAt_n32 rfl rfl rfl (nM_24 hN) (hts _ w0_2) hdX10_valueAt ⟨Nat.le_of_ble_eq_true rfl, Nat.le_of_ble_eq_true rfl⟩, hts _ w8_9, trivial⟩ ⟨kBlind, fun U hU hW => ⟨rfl, by rw [hU], hN.warm hW, hE.pass hS hFc hW hU, by rw [hU]; exact hPc, va_K.moved hW.alike hK, hDc⟩⟩ rfl rfl hl.1 rfl (lv_room (Nat.le_of_ble_eq_true rfl)) dX4_holds_329 ⟨Nat.le_of_ble_eq_true rfl, Nat.le_of_ble_eq_true rfl⟩) (fun r1497 u H locs hw hP hS => ?_)
          have k1498 := hw
          refine lv_iadd hx hb dX4_holds_332 ?_
          refine lv_topi (fun x1499 ex1499 => ?_)
          refine lv_istore (lv' := [(4, .int x1499), (8, .int x1068), (7, .int y1052), (6, .int x12), (5, .int z9), (3, .int y1054), (2, .int y1055), (0, .ref l0), (1, .int a1)]) hx hb dX4_holds_333 hl (by decide) rfl (fun ls hl => ?_)
          exact hJ335 (x1499, y1054, y1055) _ _ _ ⟨(kC_eq rfl (kC_eq rfl (kC_eq rfl (kif_f (xF_le c1057) (kLet_eq (ke_ld ex1068) (kif_f c1277 (kif_f (fun q9 => absurd (c1298.symm.trans q9) (by decide)) (kif_f (fun q9 => absurd (c1298.symm.trans q9) (by decide)) (kif_f (fun q9 => absurd (c1298.symm.trans q9) (by decide)) (kif_f (fun q9 => absurd (c1298.symm.trans q9) (by decide)) (kif_f (fun q9 => absurd (c1298.symm.trans q9) (by decide)) (kif_f (fun q9 => absurd (c1298.symm.trans q9) (by decide)) (kif_f (fun q9 => absurd (c1298.symm.trans q9) (by decide)) (kif_f (fun q9 => absurd (c1298.symm.trans q9) (by decide)) (kif_f (fun q9 => absurd (c1298.symm.trans q9) (by decide)) (kif_f (fun q9 => absurd (c1298.symm.trans q9) (by decide)) (kif_f (fun q9 => absurd (c1298.symm.trans q9) (by decide)) (kif_f (fun q9 => absurd (c1298.symm.trans q9) (by decide)) (kif_f (fun q9 => absurd (c1298.symm.trans q9) (by decide)) (kif_f (fun q9 => absurd (c1298.symm.trans q9) (by decide)) (kif_f (fun q9 => absurd (c1298.symm.trans q9) (by decide)) (kif_f (fun q9 => absurd (c1298.symm.trans q9) (by decide)) (kif_f (fun q9 => absurd (c1298.symm.trans q9) (by decide)) (kif_t c1298 (kLet_eq (ti_sub ex1495 k1488 (rg_lit (n := 1010) (by decide)) (by decide) rfl rfl) (kLet_eq (k1498).symm (kLet_eq (ke_wadd ex1499) rfl))))))))))))))))))))))))))), hP.sub (ws' := [(l0, oX4 b1 b2 b3 b4), (b1, kcI cI N1 e1), (b2, kcI cI N2 e2), (b3, kcI cI N3 e3), (b4, kcI cI 28 e4)]) [0, 1, 2, 3, 4] rfl, hD.sub (ws' := [(l0, oX4 b1 b2 b3 b4), (b1, kcI cI N1 e1), (b2, kcI cI N2 e2), (b3, kcI cI N3 e3), (b4, kcI cI 28 e4)]) [0, 1, 2, 3, 4] (by decide) rfl, hS, lv_sub (l' := [(8, .int x1068), (7, .int y1052), (6, .int x12), (5, .int z9), (4, .int x1499), (3, .int y1054), (2, .int y1055), (0, .ref l0), (1, .int a1)]) hl [1, 2, 3, 4, 0, 5, 6, 7, 8] rfl⟩
        · skip
          refine lv_tableIn (tgt := 304) (off := 233) hx hb dX4_holds_71 (by rw [c1298]; decide) (by rw [c1298]; decide) (by rw [c1298]; rfl) (by decide) ?_
          have k1500 : Rg x1068 1023 1023 := rg_toI c1298
          refine lv_iload hx hb dX4_holds_304 (lv_at hl 4 rfl) ?_
          refine lv_iload hx hb dX4_holds_306 (lv_at hl 0 rfl) ?_
          refine lv_sipush (v := 999) hx hb dX4_holds_308 (by decide) ?_
          refine lv_icmp_gt (tgt := 319) hx hb dX4_holds_311 (by decide) (fun _ => ?_) (fun c1506 => absurd (rg_gt k1500 (rg_lit (n := 999) (by decide)) (by decide)) c1506)
          refine lv_aload_n hx hb dX4_holds_319 rfl (lv_at hl 7 rfl) ?_
          refine va_get (D := D) (ci := 4) (v := .ref b4) (C := RX4) (T := TX4) (N := 4) hx hb hts iG_X4 hown hK hP 0 rfl rfl 3 (by decide) (hts _ w25_3) (fun _ h9 => h9) rfl dX4_holds_320 ?_
          refine lv_iload hx hb dX4_holds_323 (lv_at hl 0 rfl) ?_
          refine lv_sipush (v := 1010) hx hb dX4_holds_325 (by decide) ?_
          refine lv_isub hx hb dX4_holds_328 ?_
          refine lv_topi (fun x1507 ex1507 => ?_)
          have k1508 : Rg x1507 13 13 := rg_sub ex1507 k1500 (rg_lit (n := 1010) (by decide)) (by decide)
          refine kpurei (wc := [(b4, kcI cI 28 e4)]) hP hD hS hA [4] rfl (by decide) (fun hPc hDc hFc => va_runSN (As := [.ref b4, .int x1507]) (rest := [.int y1053]) ⟨hx, hb, hml, hown, hts⟩ (z_valueAt l D cI cJ cB cC b4 28 e4 x1507 H.size) ⟨va_cnB 2 hts gX4_holds_X10_valueAt_n32 rfl rfl rfl (nM_24 hN) (hts _ w0_2) hdX10_valueAt ⟨Nat.le_of_ble_eq_true rfl, Nat.le_of_ble_eq_true rfl⟩, hts _ w8_9, trivial⟩ ⟨kBlind, fun U hU hW => ⟨rfl, by rw [hU], hN.warm hW, hE.pass hS hFc hW hU, by rw [hU]; exact hPc, va_K.moved hW.alike hK, hDc⟩⟩ rfl rfl hl.1 rfl (lv_room (Nat.le_of_ble_eq_true rfl)) dX4_holds_329 ⟨Nat.le_of_ble_eq_true rfl, Nat.le_of_ble_eq_true rfl⟩) (fun r1509 u H locs hw hP hS => ?_)
          have k1510 := hw
          refine lv_iadd hx hb dX4_holds_332 ?_
          refine lv_topi (fun x1511 ex1511 => ?_)
          refine lv_istore (lv' := [(4, .int x1511), (8, .int x1068), (7, .int y1052), (6, .int x12), (5, .int z9), (3, .int y1054), (2, .int y1055), (0, .ref l0), (1, .int a1)]) hx hb dX4_holds_333 hl (by decide) rfl (fun ls hl => ?_)
          exact hJ335 (x1511, y1054, y1055) _ _ _ ⟨(kC_eq rfl (kC_eq rfl (kC_eq rfl (kif_f (xF_le c1057) (kLet_eq (ke_ld ex1068) (kif_f c1277 (kif_f (fun q9 => absurd (c1298.symm.trans q9) (by decide)) (kif_f (fun q9 => absurd (c1298.symm.trans q9) (by decide)) (kif_f (fun q9 => absurd (c1298.symm.trans q9) (by decide)) (kif_f (fun q9 => absurd (c1298.symm.trans q9) (by decide)) (kif_f (fun q9 => absurd (c1298.symm.trans q9) (by decide)) (kif_f (fun q9 => absurd (c1298.symm.trans q9) (by decide)) (kif_f (fun q9 => absurd (c1298.symm.trans q9) (by decide)) (kif_f (fun q9 => absurd (c1298.symm.trans q9) (by decide)) (kif_f (fun q9 => absurd (c1298.symm.trans q9) (by decide)) (kif_f (fun q9 => absurd (c1298.symm.trans q9) (by decide)) (kif_f (fun q9 => absurd (c1298.symm.trans q9) (by decide)) (kif_f (fun q9 => absurd (c1298.symm.trans q9) (by decide)) (kif_f (fun q9 => absurd (c1298.symm.trans q9) (by decide)) (kif_f (fun q9 => absurd (c1298.symm.trans q9) (by decide)) (kif_f (fun q9 => absurd (c1298.symm.trans q9) (by decide)) (kif_f (fun q9 => absurd (c1298.symm.trans q9) (by decide)) (kif_f (fun q9 => absurd (c1298.symm.trans q9) (by decide)) (kif_f (fun q9 => absurd (c1298.symm.trans q9) (by decide)) (kif_t c1298 (kLet_eq (ti_sub ex1507 k1500 (rg_lit (n := 1010) (by decide)) (by decide) rfl rfl) (kLet_eq (k1510).symm (kLet_eq (ke_wadd ex1511) rfl)))))))))))))))))))))))))))), hP.sub (ws' := [(l0, oX4 b1 b2 b3 b4), (b1, kcI cI N1 e1), (b2, kcI cI N2 e2), (b3, kcI cI N3 e3), (b4, kcI cI 28 e4)]) [0, 1, 2, 3, 4] rfl, hD.sub (ws' := [(l0, oX4 b1 b2 b3 b4), (b1, kcI cI N1 e1), (b2, kcI cI N2 e2), (b3, kcI cI N3 e3), (b4, kcI cI 28 e4)]) [0, 1, 2, 3, 4] (by decide) rfl, hS, lv_sub (l' := [(8, .int x1068), (7, .int y1052), (6, .int x12), (5, .int z9), (4, .int x1511), (3, .int y1054), (2, .int y1055), (0, .ref l0), (1, .int a1)]) hl [1, 2, 3, 4, 0, 5, 6, 7, 8] rfl⟩
        · skip
          refine lv_tableIn (tgt := 304) (off := 233) hx hb dX4_holds_71 (by rw [c1298]; decide) (by rw [c1298]; decide) (by rw [c1298]; rfl) (by decide) ?_
          have k1512 : Rg x1068 1024 1024 := rg_toI c1298
          refine lv_iload hx hb dX4_holds_304 (lv_at hl 4 rfl) ?_
          refine lv_iload hx hb dX4_holds_306 (lv_at hl 0 rfl) ?_
          refine lv_sipush (v := 999) hx hb dX4_holds_308 (by decide) ?_
          refine lv_icmp_gt (tgt := 319) hx hb dX4_holds_311 (by decide) (fun _ => ?_) (fun c1518 => absurd (rg_gt k1512 (rg_lit (n := 999) (by decide)) (by decide)) c1518)
          refine lv_aload_n hx hb dX4_holds_319 rfl (lv_at hl 7 rfl) ?_
          refine va_get (D := D) (ci := 4) (v := .ref b4) (C := RX4) (T := TX4) (N := 4) hx hb hts iG_X4 hown hK hP 0 rfl rfl 3 (by decide) (hts _ w25_3) (fun _ h9 => h9) rfl dX4_holds_320 ?_
          refine lv_iload hx hb dX4_holds_323 (lv_at hl 0 rfl) ?_
          refine lv_sipush (v := 1010) hx hb dX4_holds_325 (by decide) ?_
          refine lv_isub hx hb dX4_holds_328 ?_
          refine lv_topi (fun x1519 ex1519 => ?_)
          have k1520 : Rg x1519 14 14 := rg_sub ex1519 k1512 (rg_lit (n := 1010) (by decide)) (by decide)
          refine kpurei (wc := [(b4, kcI cI 28 e4)]) hP hD hS hA [4] rfl (by decide) (fun hPc hDc hFc => va_runSN (As := [.ref b4, .int x1519]) (rest := [.int y1053]) ⟨hx, hb, hml, hown, hts⟩ (z_valueAt l D cI cJ cB cC b4 28 e4 x1519 H.size) ⟨va_cnB 2 hts gX4_holds_X10_valueAt_n32 rfl rfl rfl (nM_24 hN) (hts _ w0_2) hdX10_valueAt ⟨Nat.le_of_ble_eq_true rfl, Nat.le_of_ble_eq_true rfl⟩, hts _ w8_9, trivial⟩ ⟨kBlind, fun U hU hW => ⟨rfl, by rw [hU], hN.warm hW, hE.pass hS hFc hW hU, by rw [hU]; exact hPc, va_K.moved hW.alike hK, hDc⟩⟩ rfl rfl hl.1 rfl (lv_room (Nat.le_of_ble_eq_true rfl)) dX4_holds_329 ⟨Nat.le_of_ble_eq_true rfl, Nat.le_of_ble_eq_true rfl⟩) (fun r1521 u H locs hw hP hS => ?_)
          have k1522 := hw
          refine lv_iadd hx hb dX4_holds_332 ?_
          refine lv_topi (fun x1523 ex1523 => ?_)
          refine lv_istore (lv' := [(4, .int x1523), (8, .int x1068), (7, .int y1052), (6, .int x12), (5, .int z9), (3, .int y1054), (2, .int y1055), (0, .ref l0), (1, .int a1)]) hx hb dX4_holds_333 hl (by decide) rfl (fun ls hl => ?_)
          exact hJ335 (x1523, y1054, y1055) _ _ _ ⟨(kC_eq rfl (kC_eq rfl (kC_eq rfl (kif_f (xF_le c1057) (kLet_eq (ke_ld ex1068) (kif_f c1277 (kif_f (fun q9 => absurd (c1298.symm.trans q9) (by decide)) (kif_f (fun q9 => absurd (c1298.symm.trans q9) (by decide)) (kif_f (fun q9 => absurd (c1298.symm.trans q9) (by decide)) (kif_f (fun q9 => absurd (c1298.symm.trans q9) (by decide)) (kif_f (fun q9 => absurd (c1298.symm.trans q9) (by decide)) (kif_f (fun q9 => absurd (c1298.symm.trans q9) (by decide)) (kif_f (fun q9 => absurd (c1298.symm.trans q9) (by decide)) (kif_f (fun q9 => absurd (c1298.symm.trans q9) (by decide)) (kif_f (fun q9 => absurd (c1298.symm.trans q9) (by decide)) (kif_f (fun q9 => absurd (c1298.symm.trans q9) (by decide)) (kif_f (fun q9 => absurd (c1298.symm.trans q9) (by decide)) (kif_f (fun q9 => absurd (c1298.symm.trans q9) (by decide)) (kif_f (fun q9 => absurd (c1298.symm.trans q9) (by decide)) (kif_f (fun q9 => absurd (c1298.symm.trans q9) (by decide)) (kif_f (fun q9 => absurd (c1298.symm.trans q9) (by decide)) (kif_f (fun q9 => absurd (c1298.symm.trans q9) (by decide)) (kif_f (fun q9 => absurd (c1298.symm.trans q9) (by decide)) (kif_f (fun q9 => absurd (c1298.symm.trans q9) (by decide)) (kif_f (fun q9 => absurd (c1298.symm.trans q9) (by decide)) (kif_t c1298 (kLet_eq (ti_sub ex1519 k1512 (rg_lit (n := 1010) (by decide)) (by decide) rfl rfl) (kLet_eq (k1522).symm (kLet_eq (ke_wadd ex1523) rfl))))))))))))))))))))))))))))), hP.sub (ws' := [(l0, oX4 b1 b2 b3 b4), (b1, kcI cI N1 e1), (b2, kcI cI N2 e2), (b3, kcI cI N3 e3), (b4, kcI cI 28 e4)]) [0, 1, 2, 3, 4] rfl, hD.sub (ws' := [(l0, oX4 b1 b2 b3 b4), (b1, kcI cI N1 e1), (b2, kcI cI N2 e2), (b3, kcI cI N3 e3), (b4, kcI cI 28 e4)]) [0, 1, 2, 3, 4] (by decide) rfl, hS, lv_sub (l' := [(8, .int x1068), (7, .int y1052), (6, .int x12), (5, .int z9), (4, .int x1523), (3, .int y1054), (2, .int y1055), (0, .ref l0), (1, .int a1)]) hl [1, 2, 3, 4, 0, 5, 6, 7, 8] rfl⟩
        · skip
          refine lv_tableIn (tgt := 304) (off := 233) hx hb dX4_holds_71 (by rw [c1298]; decide) (by rw [c1298]; decide) (by rw [c1298]; rfl) (by decide) ?_
          have k1524 : Rg x1068 1025 1025 := rg_toI c1298
          refine lv_iload hx hb dX4_holds_304 (lv_at hl 4 rfl) ?_
          refine lv_iload hx hb dX4_holds_306 (lv_at hl 0 rfl) ?_
          refine lv_sipush (v := 999) hx hb dX4_holds_308 (by decide) ?_
          refine lv_icmp_gt (tgt := 319) hx hb dX4_holds_311 (by decide) (fun _ => ?_) (fun c1530 => absurd (rg_gt k1524 (rg_lit (n := 999) (by decide)) (by decide)) c1530)
          refine lv_aload_n hx hb dX4_holds_319 rfl (lv_at hl 7 rfl) ?_
          refine va_get (D := D) (ci := 4) (v := .ref b4) (C := RX4) (T := TX4) (N := 4) hx hb hts iG_X4 hown hK hP 0 rfl rfl 3 (by decide) (hts _ w25_3) (fun _ h9 => h9) rfl dX4_holds_320 ?_
          refine lv_iload hx hb dX4_holds_323 (lv_at hl 0 rfl) ?_
          refine lv_sipush (v := 1010) hx hb dX4_holds_325 (by decide) ?_
          refine lv_isub hx hb dX4_holds_328 ?_
          refine lv_topi (fun x1531 ex1531 => ?_)
          have k1532 : Rg x1531 15 15 := rg_sub ex1531 k1524 (rg_lit (n := 1010) (by decide)) (by decide)
          refine kpurei (wc := [(b4, kcI cI 28 e4)]) hP hD hS hA [4] rfl (by decide) (fun hPc hDc hFc => va_runSN (As := [.ref b4, .int x1531]) (rest := [.int y1053]) ⟨hx, hb, hml, hown, hts⟩ (z_valueAt l D cI cJ cB cC b4 28 e4 x1531 H.size) ⟨va_cnB 2 hts gX4_holds_X10_valueAt_n32 rfl rfl rfl (nM_24 hN) (hts _ w0_2) hdX10_valueAt ⟨Nat.le_of_ble_eq_true rfl, Nat.le_of_ble_eq_true rfl⟩, hts _ w8_9, trivial⟩ ⟨kBlind, fun U hU hW => ⟨rfl, by rw [hU], hN.warm hW, hE.pass hS hFc hW hU, by rw [hU]; exact hPc, va_K.moved hW.alike hK, hDc⟩⟩ rfl rfl hl.1 rfl (lv_room (Nat.le_of_ble_eq_true rfl)) dX4_holds_329 ⟨Nat.le_of_ble_eq_true rfl, Nat.le_of_ble_eq_true rfl⟩) (fun r1533 u H locs hw hP hS => ?_)
          have k1534 := hw
          refine lv_iadd hx hb dX4_holds_332 ?_
          refine lv_topi (fun x1535 ex1535 => ?_)
          refine lv_istore (lv' := [(4, .int x1535), (8, .int x1068), (7, .int y1052), (6, .int x12), (5, .int z9), (3, .int y1054), (2, .int y1055), (0, .ref l0), (1, .int a1)]) hx hb dX4_holds_333 hl (by decide) rfl (fun ls hl => ?_)
          exact hJ335 (x1535, y1054, y1055) _ _ _ ⟨(kC_eq rfl (kC_eq rfl (kC_eq rfl (kif_f (xF_le c1057) (kLet_eq (ke_ld ex1068) (kif_f c1277 (kif_f (fun q9 => absurd (c1298.symm.trans q9) (by decide)) (kif_f (fun q9 => absurd (c1298.symm.trans q9) (by decide)) (kif_f (fun q9 => absurd (c1298.symm.trans q9) (by decide)) (kif_f (fun q9 => absurd (c1298.symm.trans q9) (by decide)) (kif_f (fun q9 => absurd (c1298.symm.trans q9) (by decide)) (kif_f (fun q9 => absurd (c1298.symm.trans q9) (by decide)) (kif_f (fun q9 => absurd (c1298.symm.trans q9) (by decide)) (kif_f (fun q9 => absurd (c1298.symm.trans q9) (by decide)) (kif_f (fun q9 => absurd (c1298.symm.trans q9) (by decide)) (kif_f (fun q9 => absurd (c1298.symm.trans q9) (by decide)) (kif_f (fun q9 => absurd (c1298.symm.trans q9) (by decide)) (kif_f (fun q9 => absurd (c1298.symm.trans q9) (by decide)) (kif_f (fun q9 => absurd (c1298.symm.trans q9) (by decide)) (kif_f (fun q9 => absurd (c1298.symm.trans q9) (by decide)) (kif_f (fun q9 => absurd (c1298.symm.trans q9) (by decide)) (kif_f (fun q9 => absurd (c1298.symm.trans q9) (by decide)) (kif_f (fun q9 => absurd (c1298.symm.trans q9) (by decide)) (kif_f (fun q9 => absurd (c1298.symm.trans q9) (by decide)) (kif_f (fun q9 => absurd (c1298.symm.trans q9) (by decide)) (kif_f (fun q9 => absurd (c1298.symm.trans q9) (by decide)) (kif_t c1298 (kLet_eq (ti_sub ex1531 k1524 (rg_lit (n := 1010) (by decide)) (by decide) rfl rfl) (kLet_eq (k1534).symm (kLet_eq (ke_wadd ex1535) rfl)))))))))))))))))))))))))))))), hP.sub (ws' := [(l0, oX4 b1 b2 b3 b4), (b1, kcI cI N1 e1), (b2, kcI cI N2 e2), (b3, kcI cI N3 e3), (b4, kcI cI 28 e4)]) [0, 1, 2, 3, 4] rfl, hD.sub (ws' := [(l0, oX4 b1 b2 b3 b4), (b1, kcI cI N1 e1), (b2, kcI cI N2 e2), (b3, kcI cI N3 e3), (b4, kcI cI 28 e4)]) [0, 1, 2, 3, 4] (by decide) rfl, hS, lv_sub (l' := [(8, .int x1068), (7, .int y1052), (6, .int x12), (5, .int z9), (4, .int x1535), (3, .int y1054), (2, .int y1055), (0, .ref l0), (1, .int a1)]) hl [1, 2, 3, 4, 0, 5, 6, 7, 8] rfl⟩
        · skip
          refine lv_tableIn (tgt := 304) (off := 233) hx hb dX4_holds_71 (by rw [c1298]; decide) (by rw [c1298]; decide) (by rw [c1298]; rfl) (by decide) ?_
          have k1536 : Rg x1068 1026 1026 := rg_toI c1298
          refine lv_iload hx hb dX4_holds_304 (lv_at hl 4 rfl) ?_
          refine lv_iload hx hb dX4_holds_306 (lv_at hl 0 rfl) ?_
          refine lv_sipush (v := 999) hx hb dX4_holds_308 (by decide) ?_
          refine lv_icmp_gt (tgt := 319) hx hb dX4_holds_311 (by decide) (fun _ => ?_) (fun c1542 => absurd (rg_gt k1536 (rg_lit (n := 999) (by decide)) (by decide)) c1542)
          refine lv_aload_n hx hb dX4_holds_319 rfl (lv_at hl 7 rfl) ?_
          refine va_get (D := D) (ci := 4) (v := .ref b4) (C := RX4) (T := TX4) (N := 4) hx hb hts iG_X4 hown hK hP 0 rfl rfl 3 (by decide) (hts _ w25_3) (fun _ h9 => h9) rfl dX4_holds_320 ?_
          refine lv_iload hx hb dX4_holds_323 (lv_at hl 0 rfl) ?_
          refine lv_sipush (v := 1010) hx hb dX4_holds_325 (by decide) ?_
          refine lv_isub hx hb dX4_holds_328 ?_
          refine lv_topi (fun x1543 ex1543 => ?_)
          have k1544 : Rg x1543 16 16 := rg_sub ex1543 k1536 (rg_lit (n := 1010) (by decide)) (by decide)
          refine kpurei (wc := [(b4, kcI cI 28 e4)]) hP hD hS hA [4] rfl (by decide) (fun hPc hDc hFc => va_runSN (As := [.ref b4, .int x1543]) (rest := [.int y1053]) ⟨hx, hb, hml, hown, hts⟩ (z_valueAt l D cI cJ cB cC b4 28 e4 x1543 H.size) ⟨va_cnB 2 hts gX4_holds_X10_valueAt_n32 rfl rfl rfl (nM_24 hN) (hts _ w0_2) hdX10_valueAt ⟨Nat.le_of_ble_eq_true rfl, Nat.le_of_ble_eq_true rfl⟩, hts _ w8_9, trivial⟩ ⟨kBlind, fun U hU hW => ⟨rfl, by rw [hU], hN.warm hW, hE.pass hS hFc hW hU, by rw [hU]; exact hPc, va_K.moved hW.alike hK, hDc⟩⟩ rfl rfl hl.1 rfl (lv_room (Nat.le_of_ble_eq_true rfl)) dX4_holds_329 ⟨Nat.le_of_ble_eq_true rfl, Nat.le_of_ble_eq_true rfl⟩) (fun r1545 u H locs hw hP hS => ?_)
          have k1546 := hw
          refine lv_iadd hx hb dX4_holds_332 ?_
          refine lv_topi (fun x1547 ex1547 => ?_)
          refine lv_istore (lv' := [(4, .int x1547), (8, .int x1068), (7, .int y1052), (6, .int x12), (5, .int z9), (3, .int y1054), (2, .int y1055), (0, .ref l0), (1, .int a1)]) hx hb dX4_holds_333 hl (by decide) rfl (fun ls hl => ?_)
          exact hJ335 (x1547, y1054, y1055) _ _ _ ⟨(kC_eq rfl (kC_eq rfl (kC_eq rfl (kif_f (xF_le c1057) (kLet_eq (ke_ld ex1068) (kif_f c1277 (kif_f (fun q9 => absurd (c1298.symm.trans q9) (by decide)) (kif_f (fun q9 => absurd (c1298.symm.trans q9) (by decide)) (kif_f (fun q9 => absurd (c1298.symm.trans q9) (by decide)) (kif_f (fun q9 => absurd (c1298.symm.trans q9) (by decide)) (kif_f (fun q9 => absurd (c1298.symm.trans q9) (by decide)) (kif_f (fun q9 => absurd (c1298.symm.trans q9) (by decide)) (kif_f (fun q9 => absurd (c1298.symm.trans q9) (by decide)) (kif_f (fun q9 => absurd (c1298.symm.trans q9) (by decide)) (kif_f (fun q9 => absurd (c1298.symm.trans q9) (by decide)) (kif_f (fun q9 => absurd (c1298.symm.trans q9) (by decide)) (kif_f (fun q9 => absurd (c1298.symm.trans q9) (by decide)) (kif_f (fun q9 => absurd (c1298.symm.trans q9) (by decide)) (kif_f (fun q9 => absurd (c1298.symm.trans q9) (by decide)) (kif_f (fun q9 => absurd (c1298.symm.trans q9) (by decide)) (kif_f (fun q9 => absurd (c1298.symm.trans q9) (by decide)) (kif_f (fun q9 => absurd (c1298.symm.trans q9) (by decide)) (kif_f (fun q9 => absurd (c1298.symm.trans q9) (by decide)) (kif_f (fun q9 => absurd (c1298.symm.trans q9) (by decide)) (kif_f (fun q9 => absurd (c1298.symm.trans q9) (by decide)) (kif_f (fun q9 => absurd (c1298.symm.trans q9) (by decide)) (kif_f (fun q9 => absurd (c1298.symm.trans q9) (by decide)) (kif_t c1298 (kLet_eq (ti_sub ex1543 k1536 (rg_lit (n := 1010) (by decide)) (by decide) rfl rfl) (kLet_eq (k1546).symm (kLet_eq (ke_wadd ex1547) rfl))))))))))))))))))))))))))))))), hP.sub (ws' := [(l0, oX4 b1 b2 b3 b4), (b1, kcI cI N1 e1), (b2, kcI cI N2 e2), (b3, kcI cI N3 e3), (b4, kcI cI 28 e4)]) [0, 1, 2, 3, 4] rfl, hD.sub (ws' := [(l0, oX4 b1 b2 b3 b4), (b1, kcI cI N1 e1), (b2, kcI cI N2 e2), (b3, kcI cI N3 e3), (b4, kcI cI 28 e4)]) [0, 1, 2, 3, 4] (by decide) rfl, hS, lv_sub (l' := [(8, .int x1068), (7, .int y1052), (6, .int x12), (5, .int z9), (4, .int x1547), (3, .int y1054), (2, .int y1055), (0, .ref l0), (1, .int a1)]) hl [1, 2, 3, 4, 0, 5, 6, 7, 8] rfl⟩
        · skip
          refine lv_tableIn (tgt := 304) (off := 233) hx hb dX4_holds_71 (by rw [c1298]; decide) (by rw [c1298]; decide) (by rw [c1298]; rfl) (by decide) ?_
          have k1548 : Rg x1068 1027 1027 := rg_toI c1298
          refine lv_iload hx hb dX4_holds_304 (lv_at hl 4 rfl) ?_
          refine lv_iload hx hb dX4_holds_306 (lv_at hl 0 rfl) ?_
          refine lv_sipush (v := 999) hx hb dX4_holds_308 (by decide) ?_
          refine lv_icmp_gt (tgt := 319) hx hb dX4_holds_311 (by decide) (fun _ => ?_) (fun c1554 => absurd (rg_gt k1548 (rg_lit (n := 999) (by decide)) (by decide)) c1554)
          refine lv_aload_n hx hb dX4_holds_319 rfl (lv_at hl 7 rfl) ?_
          refine va_get (D := D) (ci := 4) (v := .ref b4) (C := RX4) (T := TX4) (N := 4) hx hb hts iG_X4 hown hK hP 0 rfl rfl 3 (by decide) (hts _ w25_3) (fun _ h9 => h9) rfl dX4_holds_320 ?_
          refine lv_iload hx hb dX4_holds_323 (lv_at hl 0 rfl) ?_
          refine lv_sipush (v := 1010) hx hb dX4_holds_325 (by decide) ?_
          refine lv_isub hx hb dX4_holds_328 ?_
          refine lv_topi (fun x1555 ex1555 => ?_)
          have k1556 : Rg x1555 17 17 := rg_sub ex1555 k1548 (rg_lit (n := 1010) (by decide)) (by decide)
          refine kpurei (wc := [(b4, kcI cI 28 e4)]) hP hD hS hA [4] rfl (by decide) (fun hPc hDc hFc => va_runSN (As := [.ref b4, .int x1555]) (rest := [.int y1053]) ⟨hx, hb, hml, hown, hts⟩ (z_valueAt l D cI cJ cB cC b4 28 e4 x1555 H.size) ⟨va_cnB 2 hts gX4_holds_X10_valueAt_n32 rfl rfl rfl (nM_24 hN) (hts _ w0_2) hdX10_valueAt ⟨Nat.le_of_ble_eq_true rfl, Nat.le_of_ble_eq_true rfl⟩, hts _ w8_9, trivial⟩ ⟨kBlind, fun U hU hW => ⟨rfl, by rw [hU], hN.warm hW, hE.pass hS hFc hW hU, by rw [hU]; exact hPc, va_K.moved hW.alike hK, hDc⟩⟩ rfl rfl hl.1 rfl (lv_room (Nat.le_of_ble_eq_true rfl)) dX4_holds_329 ⟨Nat.le_of_ble_eq_true rfl, Nat.le_of_ble_eq_true rfl⟩) (fun r1557 u H locs hw hP hS => ?_)
          have k1558 := hw
          refine lv_iadd hx hb dX4_holds_332 ?_
          refine lv_topi (fun x1559 ex1559 => ?_)
          refine lv_istore (lv' := [(4, .int x1559), (8, .int x1068), (7, .int y1052), (6, .int x12), (5, .int z9), (3, .int y1054), (2, .int y1055), (0, .ref l0), (1, .int a1)]) hx hb dX4_holds_333 hl (by decide) rfl (fun ls hl => ?_)
          exact hJ335 (x1559, y1054, y1055) _ _ _ ⟨(kC_eq rfl (kC_eq rfl (kC_eq rfl (kif_f (xF_le c1057) (kLet_eq (ke_ld ex1068) (kif_f c1277 (kif_f (fun q9 => absurd (c1298.symm.trans q9) (by decide)) (kif_f (fun q9 => absurd (c1298.symm.trans q9) (by decide)) (kif_f (fun q9 => absurd (c1298.symm.trans q9) (by decide)) (kif_f (fun q9 => absurd (c1298.symm.trans q9) (by decide)) (kif_f (fun q9 => absurd (c1298.symm.trans q9) (by decide)) (kif_f (fun q9 => absurd (c1298.symm.trans q9) (by decide)) (kif_f (fun q9 => absurd (c1298.symm.trans q9) (by decide)) (kif_f (fun q9 => absurd (c1298.symm.trans q9) (by decide)) (kif_f (fun q9 => absurd (c1298.symm.trans q9) (by decide)) (kif_f (fun q9 => absurd (c1298.symm.trans q9) (by decide)) (kif_f (fun q9 => absurd (c1298.symm.trans q9) (by decide)) (kif_f (fun q9 => absurd (c1298.symm.trans q9) (by decide)) (kif_f (fun q9 => absurd (c1298.symm.trans q9) (by decide)) (kif_f (fun q9 => absurd (c1298.symm.trans q9) (by decide)) (kif_f (fun q9 => absurd (c1298.symm.trans q9) (by decide)) (kif_f (fun q9 => absurd (c1298.symm.trans q9) (by decide)) (kif_f (fun q9 => absurd (c1298.symm.trans q9) (by decide)) (kif_f (fun q9 => absurd (c1298.symm.trans q9) (by decide)) (kif_f (fun q9 => absurd (c1298.symm.trans q9) (by decide)) (kif_f (fun q9 => absurd (c1298.symm.trans q9) (by decide)) (kif_f (fun q9 => absurd (c1298.symm.trans q9) (by decide)) (kif_f (fun q9 => absurd (c1298.symm.trans q9) (by decide)) (kif_t c1298 (kLet_eq (ti_sub ex1555 k1548 (rg_lit (n := 1010) (by decide)) (by decide) rfl rfl) (kLet_eq (k1558).symm (kLet_eq (ke_wadd ex1559) rfl)))))))))))))))))))))))))))))))), hP.sub (ws' := [(l0, oX4 b1 b2 b3 b4), (b1, kcI cI N1 e1), (b2, kcI cI N2 e2), (b3, kcI cI N3 e3), (b4, kcI cI 28 e4)]) [0, 1, 2, 3, 4] rfl, hD.sub (ws' := [(l0, oX4 b1 b2 b3 b4), (b1, kcI cI N1 e1), (b2, kcI cI N2 e2), (b3, kcI cI N3 e3), (b4, kcI cI 28 e4)]) [0, 1, 2, 3, 4] (by decide) rfl, hS, lv_sub (l' := [(8, .int x1068), (7, .int y1052), (6, .int x12), (5, .int z9), (4, .int x1559), (3, .int y1054), (2, .int y1055), (0, .ref l0), (1, .int a1)]) hl [1, 2, 3, 4, 0, 5, 6, 7, 8] rfl⟩
        · skip
          refine lv_tableIn (tgt := 253) (off := 182) hx hb dX4_holds_71 (by rw [c1298]; decide) (by rw [c1298]; decide) (by rw [c1298]; rfl) (by decide) ?_
          have k1560 : Rg x1068 1028 1028 := rg_toI c1298
          refine lv_iload_n hx hb dX4_holds_253 rfl (lv_at hl 6 rfl) ?_
          refine lv_iconst (v := 1) hx hb dX4_holds_254 (by decide) ?_
          refine lv_iushr hx hb dX4_holds_255 rfl ?_
          refine lv_topi (fun x1561 ex1561 => ?_)
          refine lv_iload_n hx hb dX4_holds_256 rfl (lv_at hl 6 rfl) ?_
          refine lv_iconst (v := 1) hx hb dX4_holds_257 (by decide) ?_
          refine lv_iand hx hb dX4_holds_258 ?_
          refine lv_topi (fun x1562 ex1562 => ?_)
          have k1563 : Rg x1562 0 1 := rg_andr ex1562 (rg_lit (n := 1) (by decide)) (by decide)
          refine lv_ior hx hb dX4_holds_259 ?_
          refine lv_topi (fun x1564 ex1564 => ?_)
          refine lv_istore_n (lv' := [(2, .int x1564), (8, .int x1068), (7, .int y1052), (6, .int x12), (5, .int z9), (4, .int y1053), (3, .int y1054), (0, .ref l0), (1, .int a1)]) hx hb dX4_holds_260 rfl hl (by decide) rfl (fun ls hl => ?_)
          refine lv_goto (tgt := 335) hx hb dX4_holds_261 (by decide) ?_
          exact hJ335 (y1053, y1054, x1564) _ _ _ ⟨(kC_eq rfl (kC_eq rfl (kC_eq rfl (kif_f (xF_le c1057) (kLet_eq (ke_ld ex1068) (kif_f c1277 (kif_f (fun q9 => absurd (c1298.symm.trans q9) (by decide)) (kif_f (fun q9 => absurd (c1298.symm.trans q9) (by decide)) (kif_f (fun q9 => absurd (c1298.symm.trans q9) (by decide)) (kif_f (fun q9 => absurd (c1298.symm.trans q9) (by decide)) (kif_f (fun q9 => absurd (c1298.symm.trans q9) (by decide)) (kif_f (fun q9 => absurd (c1298.symm.trans q9) (by decide)) (kif_f (fun q9 => absurd (c1298.symm.trans q9) (by decide)) (kif_f (fun q9 => absurd (c1298.symm.trans q9) (by decide)) (kif_f (fun q9 => absurd (c1298.symm.trans q9) (by decide)) (kif_f (fun q9 => absurd (c1298.symm.trans q9) (by decide)) (kif_f (fun q9 => absurd (c1298.symm.trans q9) (by decide)) (kif_f (fun q9 => absurd (c1298.symm.trans q9) (by decide)) (kif_f (fun q9 => absurd (c1298.symm.trans q9) (by decide)) (kif_f (fun q9 => absurd (c1298.symm.trans q9) (by decide)) (kif_f (fun q9 => absurd (c1298.symm.trans q9) (by decide)) (kif_f (fun q9 => absurd (c1298.symm.trans q9) (by decide)) (kif_f (fun q9 => absurd (c1298.symm.trans q9) (by decide)) (kif_f (fun q9 => absurd (c1298.symm.trans q9) (by decide)) (kif_f (fun q9 => absurd (c1298.symm.trans q9) (by decide)) (kif_f (fun q9 => absurd (c1298.symm.trans q9) (by decide)) (kif_f (fun q9 => absurd (c1298.symm.trans q9) (by decide)) (kif_f (fun q9 => absurd (c1298.symm.trans q9) (by decide)) (kif_f (fun q9 => absurd (c1298.symm.trans q9) (by decide)) (kif_t c1298 (kLet_eq (ke_ushr ex1561) (kLet_eq (ke_and ex1562) (kLet_eq (ke_or ex1564) rfl))))))))))))))))))))))))))))))))), hP.sub (ws' := [(l0, oX4 b1 b2 b3 b4), (b1, kcI cI N1 e1), (b2, kcI cI N2 e2), (b3, kcI cI N3 e3), (b4, kcI cI 28 e4)]) [0, 1, 2, 3, 4] rfl, hD.sub (ws' := [(l0, oX4 b1 b2 b3 b4), (b1, kcI cI N1 e1), (b2, kcI cI N2 e2), (b3, kcI cI N3 e3), (b4, kcI cI 28 e4)]) [0, 1, 2, 3, 4] (by decide) rfl, hS, lv_sub (l' := [(8, .int x1068), (7, .int y1052), (6, .int x12), (5, .int z9), (4, .int y1053), (3, .int y1054), (2, .int x1564), (0, .ref l0), (1, .int a1)]) hl [1, 2, 3, 4, 5, 6, 0, 7, 8] rfl⟩
        · skip
          refine lv_tableIn (tgt := 264) (off := 193) hx hb dX4_holds_71 (by rw [c1298]; decide) (by rw [c1298]; decide) (by rw [c1298]; rfl) (by decide) ?_
          have k1565 : Rg x1068 1029 1029 := rg_toI c1298
          refine lv_iload_n hx hb dX4_holds_264 rfl (lv_at hl 6 rfl) ?_
          refine lv_iconst (v := 1) hx hb dX4_holds_265 (by decide) ?_
          refine lv_iushr hx hb dX4_holds_266 rfl ?_
          refine lv_topi (fun x1566 ex1566 => ?_)
          refine lv_iload_n hx hb dX4_holds_267 rfl (lv_at hl 6 rfl) ?_
          refine lv_bipush (v := (-2)) hx hb dX4_holds_268 (by decide) ?_
          refine lv_ior hx hb dX4_holds_270 ?_
          refine lv_topi (fun x1567 ex1567 => ?_)
          refine lv_iand hx hb dX4_holds_271 ?_
          refine lv_topi (fun x1568 ex1568 => ?_)
          refine lv_istore_n (lv' := [(2, .int x1568), (8, .int x1068), (7, .int y1052), (6, .int x12), (5, .int z9), (4, .int y1053), (3, .int y1054), (0, .ref l0), (1, .int a1)]) hx hb dX4_holds_272 rfl hl (by decide) rfl (fun ls hl => ?_)
          refine lv_goto (tgt := 335) hx hb dX4_holds_273 (by decide) ?_
          exact hJ335 (y1053, y1054, x1568) _ _ _ ⟨(kC_eq rfl (kC_eq rfl (kC_eq rfl (kif_f (xF_le c1057) (kLet_eq (ke_ld ex1068) (kif_f c1277 (kif_f (fun q9 => absurd (c1298.symm.trans q9) (by decide)) (kif_f (fun q9 => absurd (c1298.symm.trans q9) (by decide)) (kif_f (fun q9 => absurd (c1298.symm.trans q9) (by decide)) (kif_f (fun q9 => absurd (c1298.symm.trans q9) (by decide)) (kif_f (fun q9 => absurd (c1298.symm.trans q9) (by decide)) (kif_f (fun q9 => absurd (c1298.symm.trans q9) (by decide)) (kif_f (fun q9 => absurd (c1298.symm.trans q9) (by decide)) (kif_f (fun q9 => absurd (c1298.symm.trans q9) (by decide)) (kif_f (fun q9 => absurd (c1298.symm.trans q9) (by decide)) (kif_f (fun q9 => absurd (c1298.symm.trans q9) (by decide)) (kif_f (fun q9 => absurd (c1298.symm.trans q9) (by decide)) (kif_f (fun q9 => absurd (c1298.symm.trans q9) (by decide)) (kif_f (fun q9 => absurd (c1298.symm.trans q9) (by decide)) (kif_f (fun q9 => absurd (c1298.symm.trans q9) (by decide)) (kif_f (fun q9 => absurd (c1298.symm.trans q9) (by decide)) (kif_f (fun q9 => absurd (c1298.symm.trans q9) (by decide)) (kif_f (fun q9 => absurd (c1298.symm.trans q9) (by decide)) (kif_f (fun q9 => absurd (c1298.symm.trans q9) (by decide)) (kif_f (fun q9 => absurd (c1298.symm.trans q9) (by decide)) (kif_f (fun q9 => absurd (c1298.symm.trans q9) (by decide)) (kif_f (fun q9 => absurd (c1298.symm.trans q9) (by decide)) (kif_f (fun q9 => absurd (c1298.symm.trans q9) (by decide)) (kif_f (fun q9 => absurd (c1298.symm.trans q9) (by decide)) (kif_f (fun q9 => absurd (c1298.symm.trans q9) (by decide)) (kif_t c1298 (kLet_eq (ke_ushr ex1566) (kLet_eq (ke_or ex1567) (kLet_eq (ke_and ex1568) rfl)))))))))))))))))))))))))))))))))), hP.sub (ws' := [(l0, oX4 b1 b2 b3 b4), (b1, kcI cI N1 e1), (b2, kcI cI N2 e2), (b3, kcI cI N3 e3), (b4, kcI cI 28 e4)]) [0, 1, 2, 3, 4] rfl, hD.sub (ws' := [(l0, oX4 b1 b2 b3 b4), (b1, kcI cI N1 e1), (b2, kcI cI N2 e2), (b3, kcI cI N3 e3), (b4, kcI cI 28 e4)]) [0, 1, 2, 3, 4] (by decide) rfl, hS, lv_sub (l' := [(8, .int x1068), (7, .int y1052), (6, .int x12), (5, .int z9), (4, .int y1053), (3, .int y1054), (2, .int x1568), (0, .ref l0), (1, .int a1)]) hl [1, 2, 3, 4, 5, 6, 0, 7, 8] rfl⟩
        · skip
          refine lv_tableIn (tgt := 276) (off := 205) hx hb dX4_holds_71 (by rw [c1298]; decide) (by rw [c1298]; decide) (by rw [c1298]; rfl) (by decide) ?_
          have k1569 : Rg x1068 1030 1030 := rg_toI c1298
          refine lv_iload_n hx hb dX4_holds_276 rfl (lv_at hl 6 rfl) ?_
          refine lv_iconst (v := 1) hx hb dX4_holds_277 (by decide) ?_
          refine lv_ixor hx hb dX4_holds_278 ?_
          refine lv_topi (fun x1570 ex1570 => ?_)
          refine lv_istore_n (lv' := [(2, .int x1570), (8, .int x1068), (7, .int y1052), (6, .int x12), (5, .int z9), (4, .int y1053), (3, .int y1054), (0, .ref l0), (1, .int a1)]) hx hb dX4_holds_279 rfl hl (by decide) rfl (fun ls hl => ?_)
          refine lv_goto (tgt := 335) hx hb dX4_holds_280 (by decide) ?_
          exact hJ335 (y1053, y1054, x1570) _ _ _ ⟨(kC_eq rfl (kC_eq rfl (kC_eq rfl (kif_f (xF_le c1057) (kLet_eq (ke_ld ex1068) (kif_f c1277 (kif_f (fun q9 => absurd (c1298.symm.trans q9) (by decide)) (kif_f (fun q9 => absurd (c1298.symm.trans q9) (by decide)) (kif_f (fun q9 => absurd (c1298.symm.trans q9) (by decide)) (kif_f (fun q9 => absurd (c1298.symm.trans q9) (by decide)) (kif_f (fun q9 => absurd (c1298.symm.trans q9) (by decide)) (kif_f (fun q9 => absurd (c1298.symm.trans q9) (by decide)) (kif_f (fun q9 => absurd (c1298.symm.trans q9) (by decide)) (kif_f (fun q9 => absurd (c1298.symm.trans q9) (by decide)) (kif_f (fun q9 => absurd (c1298.symm.trans q9) (by decide)) (kif_f (fun q9 => absurd (c1298.symm.trans q9) (by decide)) (kif_f (fun q9 => absurd (c1298.symm.trans q9) (by decide)) (kif_f (fun q9 => absurd (c1298.symm.trans q9) (by decide)) (kif_f (fun q9 => absurd (c1298.symm.trans q9) (by decide)) (kif_f (fun q9 => absurd (c1298.symm.trans q9) (by decide)) (kif_f (fun q9 => absurd (c1298.symm.trans q9) (by decide)) (kif_f (fun q9 => absurd (c1298.symm.trans q9) (by decide)) (kif_f (fun q9 => absurd (c1298.symm.trans q9) (by decide)) (kif_f (fun q9 => absurd (c1298.symm.trans q9) (by decide)) (kif_f (fun q9 => absurd (c1298.symm.trans q9) (by decide)) (kif_f (fun q9 => absurd (c1298.symm.trans q9) (by decide)) (kif_f (fun q9 => absurd (c1298.symm.trans q9) (by decide)) (kif_f (fun q9 => absurd (c1298.symm.trans q9) (by decide)) (kif_f (fun q9 => absurd (c1298.symm.trans q9) (by decide)) (kif_f (fun q9 => absurd (c1298.symm.trans q9) (by decide)) (kif_f (fun q9 => absurd (c1298.symm.trans q9) (by decide)) (kif_t c1298 (kLet_eq (ke_xor ex1570) rfl))))))))))))))))))))))))))))))))), hP.sub (ws' := [(l0, oX4 b1 b2 b3 b4), (b1, kcI cI N1 e1), (b2, kcI cI N2 e2), (b3, kcI cI N3 e3), (b4, kcI cI 28 e4)]) [0, 1, 2, 3, 4] rfl, hD.sub (ws' := [(l0, oX4 b1 b2 b3 b4), (b1, kcI cI N1 e1), (b2, kcI cI N2 e2), (b3, kcI cI N3 e3), (b4, kcI cI 28 e4)]) [0, 1, 2, 3, 4] (by decide) rfl, hS, lv_sub (l' := [(8, .int x1068), (7, .int y1052), (6, .int x12), (5, .int z9), (4, .int y1053), (3, .int y1054), (2, .int x1570), (0, .ref l0), (1, .int a1)]) hl [1, 2, 3, 4, 5, 6, 0, 7, 8] rfl⟩
        · skip
          refine lv_tableIn (tgt := 283) (off := 212) hx hb dX4_holds_71 (by rw [c1298]; decide) (by rw [c1298]; decide) (by rw [c1298]; rfl) (by decide) ?_
          have k1571 : Rg x1068 1031 1031 := rg_toI c1298
          refine lv_iload_n hx hb dX4_holds_283 rfl (lv_at hl 6 rfl) ?_
          refine lv_iconst (v := 1) hx hb dX4_holds_284 (by decide) ?_
          refine lv_ishl hx hb dX4_holds_285 ?_
          refine lv_topi (fun x1572 ex1572 => ?_)
          refine lv_aload_n hx hb dX4_holds_286 rfl (lv_at hl 7 rfl) ?_
          refine va_get (D := D) (ci := 4) (v := .ref b4) (C := RX4) (T := TX4) (N := 4) hx hb hts iG_X4 hown hK hP 0 rfl rfl 3 (by decide) (hts _ w25_3) (fun _ h9 => h9) rfl dX4_holds_287 ?_
          refine lv_iload hx hb dX4_holds_290 (lv_at hl 0 rfl) ?_
          refine lv_sipush (v := 1010) hx hb dX4_holds_292 (by decide) ?_
          refine lv_isub hx hb dX4_holds_295 ?_
          refine lv_topi (fun x1573 ex1573 => ?_)
          have k1574 : Rg x1573 21 21 := rg_sub ex1573 k1571 (rg_lit (n := 1010) (by decide)) (by decide)
          refine kpurei (wc := [(b4, kcI cI 28 e4)]) hP hD hS hA [4] rfl (by decide) (fun hPc hDc hFc => va_runSN (As := [.ref b4, .int x1573]) (rest := [.int x1572]) ⟨hx, hb, hml, hown, hts⟩ (z_valueAt l D cI cJ cB cC b4 28 e4 x1573 H.size) ⟨va_cnB 2 hts gX4_holds_X10_valueAt_n32 rfl rfl rfl (nM_24 hN) (hts _ w0_2) hdX10_valueAt ⟨Nat.le_of_ble_eq_true rfl, Nat.le_of_ble_eq_true rfl⟩, hts _ w8_9, trivial⟩ ⟨kBlind, fun U hU hW => ⟨rfl, by rw [hU], hN.warm hW, hE.pass hS hFc hW hU, by rw [hU]; exact hPc, va_K.moved hW.alike hK, hDc⟩⟩ rfl rfl hl.1 rfl (lv_room (Nat.le_of_ble_eq_true rfl)) dX4_holds_296 ⟨Nat.le_of_ble_eq_true rfl, Nat.le_of_ble_eq_true rfl⟩) (fun r1575 u H locs hw hP hS => ?_)
          have k1576 := hw
          refine lv_ior hx hb dX4_holds_299 ?_
          refine lv_topi (fun x1577 ex1577 => ?_)
          refine lv_istore_n (lv' := [(2, .int x1577), (8, .int x1068), (7, .int y1052), (6, .int x12), (5, .int z9), (4, .int y1053), (3, .int y1054), (0, .ref l0), (1, .int a1)]) hx hb dX4_holds_300 rfl hl (by decide) rfl (fun ls hl => ?_)
          refine lv_goto (tgt := 335) hx hb dX4_holds_301 (by decide) ?_
          exact hJ335 (y1053, y1054, x1577) _ _ _ ⟨(kC_eq rfl (kC_eq rfl (kC_eq rfl (kif_f (xF_le c1057) (kLet_eq (ke_ld ex1068) (kif_f c1277 (kif_f (fun q9 => absurd (c1298.symm.trans q9) (by decide)) (kif_f (fun q9 => absurd (c1298.symm.trans q9) (by decide)) (kif_f (fun q9 => absurd (c1298.symm.trans q9) (by decide)) (kif_f (fun q9 => absurd (c1298.symm.trans q9) (by decide)) (kif_f (fun q9 => absurd (c1298.symm.trans q9) (by decide)) (kif_f (fun q9 => absurd (c1298.symm.trans q9) (by decide)) (kif_f (fun q9 => absurd (c1298.symm.trans q9) (by decide)) (kif_f (fun q9 => absurd (c1298.symm.trans q9) (by decide)) (kif_f (fun q9 => absurd (c1298.symm.trans q9) (by decide)) (kif_f (fun q9 => absurd (c1298.symm.trans q9) (by decide)) (kif_f (fun q9 => absurd (c1298.symm.trans q9) (by decide)) (kif_f (fun q9 => absurd (c1298.symm.trans q9) (by decide)) (kif_f (fun q9 => absurd (c1298.symm.trans q9) (by decide)) (kif_f (fun q9 => absurd (c1298.symm.trans q9) (by decide)) (kif_f (fun q9 => absurd (c1298.symm.trans q9) (by decide)) (kif_f (fun q9 => absurd (c1298.symm.trans q9) (by decide)) (kif_f (fun q9 => absurd (c1298.symm.trans q9) (by decide)) (kif_f (fun q9 => absurd (c1298.symm.trans q9) (by decide)) (kif_f (fun q9 => absurd (c1298.symm.trans q9) (by decide)) (kif_f (fun q9 => absurd (c1298.symm.trans q9) (by decide)) (kif_f (fun q9 => absurd (c1298.symm.trans q9) (by decide)) (kif_f (fun q9 => absurd (c1298.symm.trans q9) (by decide)) (kif_f (fun q9 => absurd (c1298.symm.trans q9) (by decide)) (kif_f (fun q9 => absurd (c1298.symm.trans q9) (by decide)) (kif_f (fun q9 => absurd (c1298.symm.trans q9) (by decide)) (kif_f (fun q9 => absurd (c1298.symm.trans q9) (by decide)) (kif_t c1298 (kLet_eq (ke_shl ex1572) (kLet_eq (ti_sub ex1573 k1571 (rg_lit (n := 1010) (by decide)) (by decide) rfl rfl) (kLet_eq (k1576).symm (kLet_eq (ke_or ex1577) rfl))))))))))))))))))))))))))))))))))))), hP.sub (ws' := [(l0, oX4 b1 b2 b3 b4), (b1, kcI cI N1 e1), (b2, kcI cI N2 e2), (b3, kcI cI N3 e3), (b4, kcI cI 28 e4)]) [0, 1, 2, 3, 4] rfl, hD.sub (ws' := [(l0, oX4 b1 b2 b3 b4), (b1, kcI cI N1 e1), (b2, kcI cI N2 e2), (b3, kcI cI N3 e3), (b4, kcI cI 28 e4)]) [0, 1, 2, 3, 4] (by decide) rfl, hS, lv_sub (l' := [(8, .int x1068), (7, .int y1052), (6, .int x12), (5, .int z9), (4, .int y1053), (3, .int y1054), (2, .int x1577), (0, .ref l0), (1, .int a1)]) hl [1, 2, 3, 4, 5, 6, 0, 7, 8] rfl⟩
        · skip
          refine lv_tableIn (tgt := 283) (off := 212) hx hb dX4_holds_71 (by rw [c1298]; decide) (by rw [c1298]; decide) (by rw [c1298]; rfl) (by decide) ?_
          have k1578 : Rg x1068 1032 1032 := rg_toI c1298
          refine lv_iload_n hx hb dX4_holds_283 rfl (lv_at hl 6 rfl) ?_
          refine lv_iconst (v := 1) hx hb dX4_holds_284 (by decide) ?_
          refine lv_ishl hx hb dX4_holds_285 ?_
          refine lv_topi (fun x1579 ex1579 => ?_)
          refine lv_aload_n hx hb dX4_holds_286 rfl (lv_at hl 7 rfl) ?_
          refine va_get (D := D) (ci := 4) (v := .ref b4) (C := RX4) (T := TX4) (N := 4) hx hb hts iG_X4 hown hK hP 0 rfl rfl 3 (by decide) (hts _ w25_3) (fun _ h9 => h9) rfl dX4_holds_287 ?_
          refine lv_iload hx hb dX4_holds_290 (lv_at hl 0 rfl) ?_
          refine lv_sipush (v := 1010) hx hb dX4_holds_292 (by decide) ?_
          refine lv_isub hx hb dX4_holds_295 ?_
          refine lv_topi (fun x1580 ex1580 => ?_)
          have k1581 : Rg x1580 22 22 := rg_sub ex1580 k1578 (rg_lit (n := 1010) (by decide)) (by decide)
          refine kpurei (wc := [(b4, kcI cI 28 e4)]) hP hD hS hA [4] rfl (by decide) (fun hPc hDc hFc => va_runSN (As := [.ref b4, .int x1580]) (rest := [.int x1579]) ⟨hx, hb, hml, hown, hts⟩ (z_valueAt l D cI cJ cB cC b4 28 e4 x1580 H.size) ⟨va_cnB 2 hts gX4_holds_X10_valueAt_n32 rfl rfl rfl (nM_24 hN) (hts _ w0_2) hdX10_valueAt ⟨Nat.le_of_ble_eq_true rfl, Nat.le_of_ble_eq_true rfl⟩, hts _ w8_9, trivial⟩ ⟨kBlind, fun U hU hW => ⟨rfl, by rw [hU], hN.warm hW, hE.pass hS hFc hW hU, by rw [hU]; exact hPc, va_K.moved hW.alike hK, hDc⟩⟩ rfl rfl hl.1 rfl (lv_room (Nat.le_of_ble_eq_true rfl)) dX4_holds_296 ⟨Nat.le_of_ble_eq_true rfl, Nat.le_of_ble_eq_true rfl⟩) (fun r1582 u H locs hw hP hS => ?_)
          have k1583 := hw
          refine lv_ior hx hb dX4_holds_299 ?_
          refine lv_topi (fun x1584 ex1584 => ?_)
          refine lv_istore_n (lv' := [(2, .int x1584), (8, .int x1068), (7, .int y1052), (6, .int x12), (5, .int z9), (4, .int y1053), (3, .int y1054), (0, .ref l0), (1, .int a1)]) hx hb dX4_holds_300 rfl hl (by decide) rfl (fun ls hl => ?_)
          refine lv_goto (tgt := 335) hx hb dX4_holds_301 (by decide) ?_
          exact hJ335 (y1053, y1054, x1584) _ _ _ ⟨(kC_eq rfl (kC_eq rfl (kC_eq rfl (kif_f (xF_le c1057) (kLet_eq (ke_ld ex1068) (kif_f c1277 (kif_f (fun q9 => absurd (c1298.symm.trans q9) (by decide)) (kif_f (fun q9 => absurd (c1298.symm.trans q9) (by decide)) (kif_f (fun q9 => absurd (c1298.symm.trans q9) (by decide)) (kif_f (fun q9 => absurd (c1298.symm.trans q9) (by decide)) (kif_f (fun q9 => absurd (c1298.symm.trans q9) (by decide)) (kif_f (fun q9 => absurd (c1298.symm.trans q9) (by decide)) (kif_f (fun q9 => absurd (c1298.symm.trans q9) (by decide)) (kif_f (fun q9 => absurd (c1298.symm.trans q9) (by decide)) (kif_f (fun q9 => absurd (c1298.symm.trans q9) (by decide)) (kif_f (fun q9 => absurd (c1298.symm.trans q9) (by decide)) (kif_f (fun q9 => absurd (c1298.symm.trans q9) (by decide)) (kif_f (fun q9 => absurd (c1298.symm.trans q9) (by decide)) (kif_f (fun q9 => absurd (c1298.symm.trans q9) (by decide)) (kif_f (fun q9 => absurd (c1298.symm.trans q9) (by decide)) (kif_f (fun q9 => absurd (c1298.symm.trans q9) (by decide)) (kif_f (fun q9 => absurd (c1298.symm.trans q9) (by decide)) (kif_f (fun q9 => absurd (c1298.symm.trans q9) (by decide)) (kif_f (fun q9 => absurd (c1298.symm.trans q9) (by decide)) (kif_f (fun q9 => absurd (c1298.symm.trans q9) (by decide)) (kif_f (fun q9 => absurd (c1298.symm.trans q9) (by decide)) (kif_f (fun q9 => absurd (c1298.symm.trans q9) (by decide)) (kif_f (fun q9 => absurd (c1298.symm.trans q9) (by decide)) (kif_f (fun q9 => absurd (c1298.symm.trans q9) (by decide)) (kif_f (fun q9 => absurd (c1298.symm.trans q9) (by decide)) (kif_f (fun q9 => absurd (c1298.symm.trans q9) (by decide)) (kif_f (fun q9 => absurd (c1298.symm.trans q9) (by decide)) (kif_f (fun q9 => absurd (c1298.symm.trans q9) (by decide)) (kif_t c1298 (kLet_eq (ke_shl ex1579) (kLet_eq (ti_sub ex1580 k1578 (rg_lit (n := 1010) (by decide)) (by decide) rfl rfl) (kLet_eq (k1583).symm (kLet_eq (ke_or ex1584) rfl)))))))))))))))))))))))))))))))))))))), hP.sub (ws' := [(l0, oX4 b1 b2 b3 b4), (b1, kcI cI N1 e1), (b2, kcI cI N2 e2), (b3, kcI cI N3 e3), (b4, kcI cI 28 e4)]) [0, 1, 2, 3, 4] rfl, hD.sub (ws' := [(l0, oX4 b1 b2 b3 b4), (b1, kcI cI N1 e1), (b2, kcI cI N2 e2), (b3, kcI cI N3 e3), (b4, kcI cI 28 e4)]) [0, 1, 2, 3, 4] (by decide) rfl, hS, lv_sub (l' := [(8, .int x1068), (7, .int y1052), (6, .int x12), (5, .int z9), (4, .int y1053), (3, .int y1054), (2, .int x1584), (0, .ref l0), (1, .int a1)]) hl [1, 2, 3, 4, 5, 6, 0, 7, 8] rfl⟩
        · skip
          refine lv_tableIn (tgt := 283) (off := 212) hx hb dX4_holds_71 (by rw [c1298]; decide) (by rw [c1298]; decide) (by rw [c1298]; rfl) (by decide) ?_
          have k1585 : Rg x1068 1033 1033 := rg_toI c1298
          refine lv_iload_n hx hb dX4_holds_283 rfl (lv_at hl 6 rfl) ?_
          refine lv_iconst (v := 1) hx hb dX4_holds_284 (by decide) ?_
          refine lv_ishl hx hb dX4_holds_285 ?_
          refine lv_topi (fun x1586 ex1586 => ?_)
          refine lv_aload_n hx hb dX4_holds_286 rfl (lv_at hl 7 rfl) ?_
          refine va_get (D := D) (ci := 4) (v := .ref b4) (C := RX4) (T := TX4) (N := 4) hx hb hts iG_X4 hown hK hP 0 rfl rfl 3 (by decide) (hts _ w25_3) (fun _ h9 => h9) rfl dX4_holds_287 ?_
          refine lv_iload hx hb dX4_holds_290 (lv_at hl 0 rfl) ?_
          refine lv_sipush (v := 1010) hx hb dX4_holds_292 (by decide) ?_
          refine lv_isub hx hb dX4_holds_295 ?_
          refine lv_topi (fun x1587 ex1587 => ?_)
          have k1588 : Rg x1587 23 23 := rg_sub ex1587 k1585 (rg_lit (n := 1010) (by decide)) (by decide)
          refine kpurei (wc := [(b4, kcI cI 28 e4)]) hP hD hS hA [4] rfl (by decide) (fun hPc hDc hFc => va_runSN (As := [.ref b4, .int x1587]) (rest := [.int x1586]) ⟨hx, hb, hml, hown, hts⟩ (z_valueAt l D cI cJ cB cC b4 28 e4 x1587 H.size) ⟨va_cnB 2 hts gX4_holds_X10_valueAt_n32 rfl rfl rfl (nM_24 hN) (hts _ w0_2) hdX10_valueAt ⟨Nat.le_of_ble_eq_true rfl, Nat.le_of_ble_eq_true rfl⟩, hts _ w8_9, trivial⟩ ⟨kBlind, fun U hU hW => ⟨rfl, by rw [hU], hN.warm hW, hE.pass hS hFc hW hU, by rw [hU]; exact hPc, va_K.moved hW.alike hK, hDc⟩⟩ rfl rfl hl.1 rfl (lv_room (Nat.le_of_ble_eq_true rfl)) dX4_holds_296 ⟨Nat.le_of_ble_eq_true rfl, Nat.le_of_ble_eq_true rfl⟩) (fun r1589 u H locs hw hP hS => ?_)
          have k1590 := hw
          refine lv_ior hx hb dX4_holds_299 ?_
          refine lv_topi (fun x1591 ex1591 => ?_)
          refine lv_istore_n (lv' := [(2, .int x1591), (8, .int x1068), (7, .int y1052), (6, .int x12), (5, .int z9), (4, .int y1053), (3, .int y1054), (0, .ref l0), (1, .int a1)]) hx hb dX4_holds_300 rfl hl (by decide) rfl (fun ls hl => ?_)
          refine lv_goto (tgt := 335) hx hb dX4_holds_301 (by decide) ?_
          exact hJ335 (y1053, y1054, x1591) _ _ _ ⟨(kC_eq rfl (kC_eq rfl (kC_eq rfl (kif_f (xF_le c1057) (kLet_eq (ke_ld ex1068) (kif_f c1277 (kif_f (fun q9 => absurd (c1298.symm.trans q9) (by decide)) (kif_f (fun q9 => absurd (c1298.symm.trans q9) (by decide)) (kif_f (fun q9 => absurd (c1298.symm.trans q9) (by decide)) (kif_f (fun q9 => absurd (c1298.symm.trans q9) (by decide)) (kif_f (fun q9 => absurd (c1298.symm.trans q9) (by decide)) (kif_f (fun q9 => absurd (c1298.symm.trans q9) (by decide)) (kif_f (fun q9 => absurd (c1298.symm.trans q9) (by decide)) (kif_f (fun q9 => absurd (c1298.symm.trans q9) (by decide)) (kif_f (fun q9 => absurd (c1298.symm.trans q9) (by decide)) (kif_f (fun q9 => absurd (c1298.symm.trans q9) (by decide)) (kif_f (fun q9 => absurd (c1298.symm.trans q9) (by decide)) (kif_f (fun q9 => absurd (c1298.symm.trans q9) (by decide)) (kif_f (fun q9 => absurd (c1298.symm.trans q9) (by decide)) (kif_f (fun q9 => absurd (c1298.symm.trans q9) (by decide)) (kif_f (fun q9 => absurd (c1298.symm.trans q9) (by decide)) (kif_f (fun q9 => absurd (c1298.symm.trans q9) (by decide)) (kif_f (fun q9 => absurd (c1298.symm.trans q9) (by decide)) (kif_f (fun q9 => absurd (c1298.symm.trans q9) (by decide)) (kif_f (fun q9 => absurd (c1298.symm.trans q9) (by decide)) (kif_f (fun q9 => absurd (c1298.symm.trans q9) (by decide)) (kif_f (fun q9 => absurd (c1298.symm.trans q9) (by decide)) (kif_f (fun q9 => absurd (c1298.symm.trans q9) (by decide)) (kif_f (fun q9 => absurd (c1298.symm.trans q9) (by decide)) (kif_f (fun q9 => absurd (c1298.symm.trans q9) (by decide)) (kif_f (fun q9 => absurd (c1298.symm.trans q9) (by decide)) (kif_f (fun q9 => absurd (c1298.symm.trans q9) (by decide)) (kif_f (fun q9 => absurd (c1298.symm.trans q9) (by decide)) (kif_f (fun q9 => absurd (c1298.symm.trans q9) (by decide)) (kLet_eq (ke_shl ex1586) (kLet_eq (ti_sub ex1587 k1585 (rg_lit (n := 1010) (by decide)) (by decide) rfl rfl) (kLet_eq (k1590).symm (kLet_eq (ke_or ex1591) rfl)))))))))))))))))))))))))))))))))))))), hP.sub (ws' := [(l0, oX4 b1 b2 b3 b4), (b1, kcI cI N1 e1), (b2, kcI cI N2 e2), (b3, kcI cI N3 e3), (b4, kcI cI 28 e4)]) [0, 1, 2, 3, 4] rfl, hD.sub (ws' := [(l0, oX4 b1 b2 b3 b4), (b1, kcI cI N1 e1), (b2, kcI cI N2 e2), (b3, kcI cI N3 e3), (b4, kcI cI 28 e4)]) [0, 1, 2, 3, 4] (by decide) rfl, hS, lv_sub (l' := [(8, .int x1068), (7, .int y1052), (6, .int x12), (5, .int z9), (4, .int y1053), (3, .int y1054), (2, .int x1591), (0, .ref l0), (1, .int a1)]) hl [1, 2, 3, 4, 5, 6, 0, 7, 8] rfl⟩
  refine lv_if_le (tgt := 24) hx hb dX4_holds_8 (by decide) (fun c1592 => ?_) (fun c1592 => ?_)
  · skip
    have k1593 : Rg a1 (-2147483648) 0 := rg_e1 (leI c1592) (rg_any a1) (rg_lit (n := 0) (by decide)) (by decide)
    refine lv_iconst (v := 0) hx hb dX4_holds_24 (by decide) ?_
    exact hJ25 ((0 : Int32)) _ _ _ ⟨(kif_t (leI c1592) rfl), hP.sub (ws' := [(l0, oX4 b1 b2 b3 b4), (b1, kcI cI N1 e1), (b2, kcI cI N2 e2), (b3, kcI cI N3 e3), (b4, kcI cI 28 e4)]) [0, 1, 2, 3, 4] rfl, hD.sub (ws' := [(l0, oX4 b1 b2 b3 b4), (b1, kcI cI N1 e1), (b2, kcI cI N2 e2), (b3, kcI cI N3 e3), (b4, kcI cI 28 e4)]) [0, 1, 2, 3, 4] (by decide) rfl, hS, lv_sub (l' := [(4, .int 0), (3, .int 0), (2, .int 1), (0, .ref l0), (1, .int a1)]) hl [0, 1, 2, 3, 4] rfl⟩
  · skip
    have k1594 : Rg a1 1 2147483647 := rg_l2 (nleI c1592) (rg_lit (n := 0) (by decide)) (rg_any a1) (by decide)
    refine lv_aload_n hx hb dX4_holds_11 rfl (lv_at hl 3 rfl) ?_
    refine va_get (D := D) (ci := 4) (v := .ref b2) (C := RX4) (T := TX4) (N := 4) hx hb hts iG_X4 hown hK hP 0 rfl rfl 1 (by decide) (hts _ w25_5) (fun _ h9 => h9) rfl dX4_holds_12 ?_
    refine lv_iload_n hx hb dX4_holds_15 rfl (lv_at hl 4 rfl) ?_
    refine lv_iconst (v := 1) hx hb dX4_holds_16 (by decide) ?_
    refine lv_isub hx hb dX4_holds_17 ?_
    refine lv_topi (fun x1595 ex1595 => ?_)
    have k1596 : Rg x1595 0 2147483646 := rg_sub ex1595 k1594 (rg_lit (n := 1) (by decide)) (by decide)
    refine kpurei (wc := [(b2, kcI cI N2 e2)]) hP hD hS hA [2] rfl (by decide) (fun hPc hDc hFc => va_runSN (As := [.ref b2, .int x1595]) (rest := []) ⟨hx, hb, hml, hown, hts⟩ (z_valueAt l D cI cJ cB cC b2 N2 e2 x1595 H.size) ⟨va_cnB 2 hts gX4_holds_X10_valueAt_n32 rfl rfl rfl (nM_24 hN) (hts _ w0_2) hdX10_valueAt ⟨Nat.le_of_ble_eq_true rfl, Nat.le_of_ble_eq_true rfl⟩, hts _ w8_9, trivial⟩ ⟨kBlind, fun U hU hW => ⟨rfl, by rw [hU], hN.warm hW, hE.pass hS hFc hW hU, by rw [hU]; exact hPc, va_K.moved hW.alike hK, hDc⟩⟩ rfl rfl hl.1 rfl (lv_room (Nat.le_of_ble_eq_true rfl)) dX4_holds_18 ⟨Nat.le_of_ble_eq_true rfl, Nat.le_of_ble_eq_true rfl⟩) (fun r1597 u H locs hw hP hS => ?_)
    have k1598 := hw
    refine lv_goto (tgt := 25) hx hb dX4_holds_21 (by decide) ?_
    exact hJ25 (r1597) _ _ _ ⟨(kif_f (xF_le c1592) (kLet_eq (ti_sub ex1595 k1594 (rg_lit (n := 1) (by decide)) (by decide) rfl rfl) (kLet_eq (k1598).symm rfl))), hP.sub (ws' := [(l0, oX4 b1 b2 b3 b4), (b1, kcI cI N1 e1), (b2, kcI cI N2 e2), (b3, kcI cI N3 e3), (b4, kcI cI 28 e4)]) [0, 1, 2, 3, 4] rfl, hD.sub (ws' := [(l0, oX4 b1 b2 b3 b4), (b1, kcI cI N1 e1), (b2, kcI cI N2 e2), (b3, kcI cI N3 e3), (b4, kcI cI 28 e4)]) [0, 1, 2, 3, 4] (by decide) rfl, hS, lv_sub (l' := [(4, .int 0), (3, .int 0), (2, .int 1), (0, .ref l0), (1, .int a1)]) hl [0, 1, 2, 3, 4] rfl⟩

