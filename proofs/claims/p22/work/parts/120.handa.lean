def kwX3_lookAtMan : List Cond := .code yX3_lookAtMan cX3_lookAtMan 6 none :: kG
theorem hdX3_lookAtMan : yX3_lookAtMan.cls ≠ "java/lang/invoke/MethodHandle" ∧ yX3_lookAtMan.cls ≠ "java/lang/invoke/VarHandle" ∧ (parseMethodDescriptor yX3_lookAtMan.desc).map (fun d => d.parameters.length) = some 2 := by decide +kernel
theorem gX3_lookAtMan_X0_forbids_n61 : GoodIn kG (kwX0_forbids) := gK w29_1 gGG
theorem gX3_lookAtMan_X0_priceOf_n65 : GoodIn kG (kwX0_priceOf) := gK w31_8 gGG
theorem gX3_lookAtMan_X10_setAt_n69 : GoodIn kG (kwX10_setAt) := gK w11_11 gGG
theorem gX3_lookAtMan_X10_valueAt_n57 : GoodIn kG (kwX10_valueAt) := gK w8_10 gGG
theorem dX3_lookAtMan_0 : decode cX3_lookAtMan 0 = .ok (.iconst 0, 1) := by decide +kernel
theorem dX3_lookAtMan_1 : decode cX3_lookAtMan 1 = .ok (.istore_n 3, 1) := by decide +kernel
theorem dX3_lookAtMan_2 : decode cX3_lookAtMan 2 = .ok (.iconst 0, 1) := by decide +kernel
theorem dX3_lookAtMan_3 : decode cX3_lookAtMan 3 = .ok (.istore 4, 2) := by decide +kernel
theorem dX3_lookAtMan_5 : decode cX3_lookAtMan 5 = .ok (.iload 4, 2) := by decide +kernel
theorem dX3_lookAtMan_7 : decode cX3_lookAtMan 7 = .ok (.aload_n 0, 1) := by decide +kernel
theorem dX3_lookAtMan_8 : decode cX3_lookAtMan 8 = .ok (.getfield 35, 3) := by decide +kernel
theorem dX3_lookAtMan_11 : decode cX3_lookAtMan 11 = .ok (.if_icmp .ge 61, 3) := by decide +kernel
theorem dX3_lookAtMan_14 : decode cX3_lookAtMan 14 = .ok (.aload_n 0, 1) := by decide +kernel
theorem dX3_lookAtMan_15 : decode cX3_lookAtMan 15 = .ok (.getfield 19, 3) := by decide +kernel
theorem dX3_lookAtMan_18 : decode cX3_lookAtMan 18 = .ok (.iload 4, 2) := by decide +kernel
theorem dX3_lookAtMan_20 : decode cX3_lookAtMan 20 = .ok (.invokestatic 57, 3) := by decide +kernel
theorem dX3_lookAtMan_23 : decode cX3_lookAtMan 23 = .ok (.istore 5, 2) := by decide +kernel
theorem dX3_lookAtMan_25 : decode cX3_lookAtMan 25 = .ok (.aload_n 1, 1) := by decide +kernel
theorem dX3_lookAtMan_26 : decode cX3_lookAtMan 26 = .ok (.iload_n 2, 1) := by decide +kernel
theorem dX3_lookAtMan_27 : decode cX3_lookAtMan 27 = .ok (.iload 5, 2) := by decide +kernel
theorem dX3_lookAtMan_29 : decode cX3_lookAtMan 29 = .ok (.invokevirtual 61, 3) := by decide +kernel
theorem dX3_lookAtMan_32 : decode cX3_lookAtMan 32 = .ok (.ifCond .ne 34, 3) := by decide +kernel
theorem dX3_lookAtMan_35 : decode cX3_lookAtMan 35 = .ok (.iload_n 3, 1) := by decide +kernel
theorem dX3_lookAtMan_36 : decode cX3_lookAtMan 36 = .ok (.iconst 1, 1) := by decide +kernel
theorem dX3_lookAtMan_37 : decode cX3_lookAtMan 37 = .ok (.iload 4, 2) := by decide +kernel
theorem dX3_lookAtMan_39 : decode cX3_lookAtMan 39 = .ok (.ishl, 1) := by decide +kernel
theorem dX3_lookAtMan_40 : decode cX3_lookAtMan 40 = .ok (.ior, 1) := by decide +kernel
theorem dX3_lookAtMan_41 : decode cX3_lookAtMan 41 = .ok (.istore_n 3, 1) := by decide +kernel
theorem dX3_lookAtMan_42 : decode cX3_lookAtMan 42 = .ok (.aload_n 0, 1) := by decide +kernel
theorem dX3_lookAtMan_43 : decode cX3_lookAtMan 43 = .ok (.getfield 25, 3) := by decide +kernel
theorem dX3_lookAtMan_46 : decode cX3_lookAtMan 46 = .ok (.aload_n 0, 1) := by decide +kernel
theorem dX3_lookAtMan_47 : decode cX3_lookAtMan 47 = .ok (.getfield 31, 3) := by decide +kernel
theorem dX3_lookAtMan_50 : decode cX3_lookAtMan 50 = .ok (.bipush 12, 2) := by decide +kernel
theorem dX3_lookAtMan_52 : decode cX3_lookAtMan 52 = .ok (.imul, 1) := by decide +kernel
theorem dX3_lookAtMan_53 : decode cX3_lookAtMan 53 = .ok (.iload 4, 2) := by decide +kernel
theorem dX3_lookAtMan_55 : decode cX3_lookAtMan 55 = .ok (.iadd, 1) := by decide +kernel
theorem dX3_lookAtMan_56 : decode cX3_lookAtMan 56 = .ok (.aload_n 1, 1) := by decide +kernel
theorem dX3_lookAtMan_57 : decode cX3_lookAtMan 57 = .ok (.iload_n 2, 1) := by decide +kernel
theorem dX3_lookAtMan_58 : decode cX3_lookAtMan 58 = .ok (.iload 5, 2) := by decide +kernel
theorem dX3_lookAtMan_60 : decode cX3_lookAtMan 60 = .ok (.invokevirtual 65, 3) := by decide +kernel
theorem dX3_lookAtMan_63 : decode cX3_lookAtMan 63 = .ok (.invokestatic 69, 3) := by decide +kernel
theorem dX3_lookAtMan_66 : decode cX3_lookAtMan 66 = .ok (.iinc 4 1, 3) := by decide +kernel
theorem dX3_lookAtMan_69 : decode cX3_lookAtMan 69 = .ok (.goto (-64), 3) := by decide +kernel
theorem dX3_lookAtMan_72 : decode cX3_lookAtMan 72 = .ok (.aload_n 0, 1) := by decide +kernel
theorem dX3_lookAtMan_73 : decode cX3_lookAtMan 73 = .ok (.getfield 22, 3) := by decide +kernel
theorem dX3_lookAtMan_76 : decode cX3_lookAtMan 76 = .ok (.aload_n 0, 1) := by decide +kernel
theorem dX3_lookAtMan_77 : decode cX3_lookAtMan 77 = .ok (.getfield 31, 3) := by decide +kernel
theorem dX3_lookAtMan_80 : decode cX3_lookAtMan 80 = .ok (.iload_n 3, 1) := by decide +kernel
theorem dX3_lookAtMan_81 : decode cX3_lookAtMan 81 = .ok (.invokestatic 69, 3) := by decide +kernel
theorem dX3_lookAtMan_84 : decode cX3_lookAtMan 84 = .ok (.return_, 1) := by decide +kernel
set_option maxHeartbeats 4000000 in
set_option maxRecDepth 100000 in
/-- Handing.lookAtMan (n) -/
theorem z_Hand_lookAtMan_n (l : Launch) (D : va_G) (cI cJ cB cC : ClassId) (d0 : Nat) (t0 : Nat) (b0 : Nat) (c0 : Nat) (n0 : Nat) (p0 : Nat) (s0 : Nat) (bc : Int32) (cc_ : Int32) (et : Nat → Int64) (eb : Nat → Int32) (ec : Nat → Int32) (en : Nat → Int32) (ep : Nat → Int32) (es : Nat → Int32) (h : Nat) (m1 : Nat) (m2 : Nat) (m3 : Nat) (mc : Int32) (sc : Int32) (tx : Int32) (nr : Int32) (ra : Int32) (ru : Int32) (dy : Int32) (wa : Int32) (se : Int32) (f1 : Nat → Int32) (f2 : Nat → Int32) (f3 : Nat → Int64) (a1 : Int32) (sz : Nat) (H_bc : Rg bc 0 9) (H_cc_ : Rg cc_ 0 12) : Met l yX3_lookAtMan kwX3_lookAtMan ({ frames := 4, cells := 0, slots := 0, locals := 90 } : Room) (kPre D (kT cI cJ cB cC) sz [(d0, oX3 t0 b0 c0 n0 p0 s0 bc cc_), (t0, kcJ cJ 4096 et), (b0, kcI cI 10 eb), (c0, kcI cI 12 ec), (n0, kcI cI 10 en), (p0, kcI cI 120 ep), (s0, kcI cI 10 es), (h, oX0 m1 m2 m3 mc sc tx nr ra ru dy wa se none), (m1, kcI cI 50 f1), (m2, kcI cI 72 f2), (m3, kcJ cJ 30 f3)] [.ref d0, .ref h, .int a1]) (va_Qv (fun (uu : (Nat → Int32) × (Nat → Int32)) => match uu with | (f0_, f1_) => F_z_Hand_lookAtMan_n (bc : Int32).toInt (cc_ : Int32).toInt (gT ec) (gT en) (gT ep) (sc : Int32).toInt (nr : Int32).toInt (gT f1) f3 (a1 : Int32).toInt = ((gT f0_), (gT f1_))) (fun (uu : (Nat → Int32) × (Nat → Int32)) (t : State) => match uu with | (f0_, f1_) => kB D (kT cI cJ cB cC) (va_A [(d0, oX3 t0 b0 c0 n0 p0 s0 bc cc_), (t0, kcJ cJ 4096 et), (b0, kcI cI 10 eb), (c0, kcI cI 12 ec), (n0, kcI cI 10 en), (p0, kcI cI 120 ep), (s0, kcI cI 10 es), (h, oX0 m1 m2 m3 mc sc tx nr ra ru dy wa se none), (m1, kcI cI 50 f1), (m2, kcI cI 72 f2), (m3, kcJ cJ 30 f3)] sz) [(d0, oX3 t0 b0 c0 n0 p0 s0 bc cc_), (t0, kcJ cJ 4096 et), (b0, kcI cI 10 eb), (c0, kcI cI 12 ec), (n0, kcI cI 10 f0_), (p0, kcI cI 120 f1_), (s0, kcI cI 10 es), (h, oX0 m1 m2 m3 mc sc tx nr ra ru dy wa se none), (m1, kcI cI 50 f1), (m2, kcI cI 72 f2), (m3, kcJ cJ 30 f3)] t) (va_A [(d0, oX3 t0 b0 c0 n0 p0 s0 bc cc_), (t0, kcJ cJ 4096 et), (b0, kcI cI 10 eb), (c0, kcI cI 12 ec), (n0, kcI cI 10 en), (p0, kcI cI 120 ep), (s0, kcI cI 10 es), (h, oX0 m1 m2 m3 mc sc tx nr ra ru dy wa se none), (m1, kcI cI 50 f1), (m2, kcI cI 72 f2), (m3, kcJ cJ 30 f3)] sz)) 0 0 (va_A [(d0, oX3 t0 b0 c0 n0 p0 s0 bc cc_), (t0, kcJ cJ 4096 et), (b0, kcI cI 10 eb), (c0, kcI cI 12 ec), (n0, kcI cI 10 en), (p0, kcI cI 120 ep), (s0, kcI cI 10 es), (h, oX0 m1 m2 m3 mc sc tx nr ra ru dy wa se none), (m1, kcI cI 50 f1), (m2, kcI cI 72 f2), (m3, kcJ cJ 30 f3)] sz) := by
  refine Met.ofW (cc := cX3_lookAtMan) (maxL := 6) (ret := none) (by decide) rfl ?_
  intro p e s m args below meth c s₁ B hml hv
  obtain ⟨rfl, hsz, hN, hE, hP, hK, hD0⟩ := hv
  have hx := B.exec
  have hb := B.bytes
  have hr := B.returns
  have hts := fun (w : Cond) (h : w ∈ kG) => atoms_spec (ws := kwX3_lookAtMan) B.pre w (List.mem_cons_of_mem _ h)
  have hown : s.vm.findClass RX3 = some m.cls := findClass_of_methodNamed B.named
  subst hsz
  have hD := hD0.self (sz := s.heap.size)
  generalize hAe : va_A [(d0, oX3 t0 b0 c0 n0 p0 s0 bc cc_), (t0, kcJ cJ 4096 et), (b0, kcI cI 10 eb), (c0, kcI cI 12 ec), (n0, kcI cI 10 en), (p0, kcI cI 120 ep), (s0, kcI cI 10 es), (h, oX0 m1 m2 m3 mc sc tx nr ra ru dy wa se none), (m1, kcI cI 50 f1), (m2, kcI cI 72 f2), (m3, kcJ cJ 30 f3)] s.heap.size = A at hD hE ⊢
  have hA : ∀ q : Nat, s.heap.size ≤ q → A q := fun q h => by rw [← hAe]; exact Or.inr h
  have hl := lv_entry ([.ref d0, .ref h, .int a1]) (n := 6) (Nat.le_of_ble_eq_true rfl)
  rw [lg_entry_eq]
  generalize (lg_sl ([.ref d0, .ref h, .int a1]) ++ List.replicate (6 - (lg_sl ([.ref d0, .ref h, .int a1])).length) Slot.unset).toArray = ls at hl ⊢
  have hl : lv_has ls 6 [(0, .ref d0), (1, .ref h), (2, .int a1)] := hl
  obtain ⟨H, hH0⟩ : ∃ H, H = s.heap := ⟨_, rfl⟩
  have hS : va_S A s.heap H [] := by rw [hH0]; exact va_S.rf
  have hP : va_P D vwCl [(d0, oX3 t0 b0 c0 n0 p0 s0 bc cc_), (t0, kcJ cJ 4096 et), (b0, kcI cI 10 eb), (c0, kcI cI 12 ec), (n0, kcI cI 10 en), (p0, kcI cI 120 ep), (s0, kcI cI 10 es), (h, oX0 m1 m2 m3 mc sc tx nr ra ru dy wa se none), (m1, kcI cI 50 f1), (m2, kcI cI 72 f2), (m3, kcJ cJ 30 f3)] H := by rw [hH0]; exact hP
  refine kHeap hH0 ?_
  clear hH0
  refine lv_iconst (v := 0) hx hb dX3_lookAtMan_0 (by decide) ?_
  refine lv_istore_n (lv' := [(3, .int 0), (0, .ref d0), (1, .ref h), (2, .int a1)]) hx hb dX3_lookAtMan_1 rfl hl (by decide) rfl (fun ls hl => ?_)
  refine lv_iconst (v := 0) hx hb dX3_lookAtMan_2 (by decide) ?_
  refine lv_istore (lv' := [(4, .int 0), (3, .int 0), (0, .ref d0), (1, .ref h), (2, .int a1)]) hx hb dX3_lookAtMan_3 hl (by decide) rfl (fun ls hl => ?_)
  refine k_loop (hd := 5) (fun (u : Int32 × Int32 × (Nat → Int32)) => match u with | (y470, y471, g472) => (12 - (y470).toInt).toNat) (fun (u : Int32 × Int32 × (Nat → Int32)) (H : Heap) (locs : List Loc) (ls : Array Slot) => match u with | (y470, y471, g472) => (F_z_Hand_lookAtMan_n bc.toInt cc_.toInt (gT ec) (gT en) (gT ep) sc.toInt nr.toInt (gT f1) f3 a1.toInt = F_z_Hand_lookAtMan_n_l1 bc.toInt cc_.toInt (gT ec) (gT en) sc.toInt nr.toInt (gT f1) f3 a1.toInt (y470.toInt, y471.toInt, (gT g472))) ∧ Rg y470 0 12 ∧ Rg y471 0 4095 ∧ va_P D vwCl [(d0, oX3 t0 b0 c0 n0 p0 s0 bc cc_), (t0, kcJ cJ 4096 et), (b0, kcI cI 10 eb), (c0, kcI cI 12 ec), (n0, kcI cI 10 en), (p0, kcI cI 120 g472), (s0, kcI cI 10 es), (h, oX0 m1 m2 m3 mc sc tx nr ra ru dy wa se none), (m1, kcI cI 50 f1), (m2, kcI cI 72 f2), (m3, kcJ cJ 30 f3)] H ∧ va_D A [(d0, oX3 t0 b0 c0 n0 p0 s0 bc cc_), (t0, kcJ cJ 4096 et), (b0, kcI cI 10 eb), (c0, kcI cI 12 ec), (n0, kcI cI 10 en), (p0, kcI cI 120 g472), (s0, kcI cI 10 es), (h, oX0 m1 m2 m3 mc sc tx nr ra ru dy wa se none), (m1, kcI cI 50 f1), (m2, kcI cI 72 f2), (m3, kcJ cJ 30 f3)] ∧ va_S A s.heap H locs ∧ lv_has ls 6 [(4, .int y470), (3, .int y471), (0, .ref d0), (1, .ref h), (2, .int a1)]) ((0 : Int32), (0 : Int32), ep) ⟨rfl, (rg_w (rg_lit (n := 0) (by decide)) (by decide)), (rg_w (rg_lit (n := 0) (by decide)) (by decide)), hP.sub (ws' := [(d0, oX3 t0 b0 c0 n0 p0 s0 bc cc_), (t0, kcJ cJ 4096 et), (b0, kcI cI 10 eb), (c0, kcI cI 12 ec), (n0, kcI cI 10 en), (p0, kcI cI 120 ep), (s0, kcI cI 10 es), (h, oX0 m1 m2 m3 mc sc tx nr ra ru dy wa se none), (m1, kcI cI 50 f1), (m2, kcI cI 72 f2), (m3, kcJ cJ 30 f3)]) [0, 1, 2, 3, 4, 5, 6, 7, 8, 9, 10] rfl, hD.sub (ws' := [(d0, oX3 t0 b0 c0 n0 p0 s0 bc cc_), (t0, kcJ cJ 4096 et), (b0, kcI cI 10 eb), (c0, kcI cI 12 ec), (n0, kcI cI 10 en), (p0, kcI cI 120 ep), (s0, kcI cI 10 es), (h, oX0 m1 m2 m3 mc sc tx nr ra ru dy wa se none), (m1, kcI cI 50 f1), (m2, kcI cI 72 f2), (m3, kcJ cJ 30 f3)]) [0, 1, 2, 3, 4, 5, 6, 7, 8, 9, 10] (by decide) rfl, hS, lv_sub (l' := [(4, .int 0), (3, .int 0), (0, .ref d0), (1, .ref h), (2, .int a1)]) hl [0, 1, 2, 3, 4] rfl⟩ (fun u H locs ls hI ih473 => ?_)
  clear hP hD hS hl
  obtain ⟨y470, y471, g472⟩ := u
  obtain ⟨hF1, hy470, hy471, hP, hD, hS, hl⟩ := hI
  have hP : va_P D vwCl [(d0, oX3 t0 b0 c0 n0 p0 s0 bc cc_), (t0, kcJ cJ 4096 et), (b0, kcI cI 10 eb), (c0, kcI cI 12 ec), (n0, kcI cI 10 en), (p0, kcI cI 120 g472), (s0, kcI cI 10 es), (h, oX0 m1 m2 m3 mc sc tx nr ra ru dy wa se none), (m1, kcI cI 50 f1), (m2, kcI cI 72 f2), (m3, kcJ cJ 30 f3)] H := hP
  have hD : va_D A [(d0, oX3 t0 b0 c0 n0 p0 s0 bc cc_), (t0, kcJ cJ 4096 et), (b0, kcI cI 10 eb), (c0, kcI cI 12 ec), (n0, kcI cI 10 en), (p0, kcI cI 120 g472), (s0, kcI cI 10 es), (h, oX0 m1 m2 m3 mc sc tx nr ra ru dy wa se none), (m1, kcI cI 50 f1), (m2, kcI cI 72 f2), (m3, kcJ cJ 30 f3)] := hD
  have hl : lv_has ls 6 [(4, .int y470), (3, .int y471), (0, .ref d0), (1, .ref h), (2, .int a1)] := hl
  refine lv_iload hx hb dX3_lookAtMan_5 (lv_at hl 0 rfl) ?_
  refine lv_aload_n hx hb dX3_lookAtMan_7 rfl (lv_at hl 2 rfl) ?_
  refine va_get (D := D) (ci := 3) (v := .int cc_) (C := RX3) (T := TX3) (N := 8) hx hb hts iG_X3 hown hK hP 0 rfl rfl 7 (by decide) (hts _ w4_11) (fun _ h9 => h9) rfl dX3_lookAtMan_8 ?_
  refine lv_icmp_ge (tgt := 72) hx hb dX3_lookAtMan_11 (by decide) (fun c474 => ?_) (fun c474 => ?_)
  · skip
    refine lv_aload_n hx hb dX3_lookAtMan_72 rfl (lv_at hl 2 rfl) ?_
    refine va_get (D := D) (ci := 3) (v := .ref n0) (C := RX3) (T := TX3) (N := 8) hx hb hts iG_X3 hown hK hP 0 rfl rfl 3 (by decide) (hts _ w4_7) (fun _ h9 => h9) rfl dX3_lookAtMan_73 ?_
    refine lv_aload_n hx hb dX3_lookAtMan_76 rfl (lv_at hl 2 rfl) ?_
    refine va_get (D := D) (ci := 3) (v := .int bc) (C := RX3) (T := TX3) (N := 8) hx hb hts iG_X3 hown hK hP 0 rfl rfl 6 (by decide) (hts _ w4_10) (fun _ h9 => h9) rfl dX3_lookAtMan_77 ?_
    refine lv_iload_n hx hb dX3_lookAtMan_80 rfl (lv_at hl 1 rfl) ?_
    refine kcallv (wc := [(n0, kcI cI 10 en)]) (wr := [(d0, oX3 t0 b0 c0 n0 p0 s0 bc cc_), (t0, kcJ cJ 4096 et), (b0, kcI cI 10 eb), (c0, kcI cI 12 ec), (p0, kcI cI 120 g472), (s0, kcI cI 10 es), (h, oX0 m1 m2 m3 mc sc tx nr ra ru dy wa se none), (m1, kcI cI 50 f1), (m2, kcI cI 72 f2), (m3, kcJ cJ 30 f3)]) hP hD hS hA [4] [0, 1, 2, 3, 5, 6, 7, 8, 9, 10] rfl rfl (by decide) (by decide) (by decide) (fun hPc hDc hFc => va_runSN (As := [.ref n0, .int bc, .int y471]) (rest := []) ⟨hx, hb, hml, hown, hts⟩ (z_setAt l D cI cJ cB cC n0 10 en bc y471 H.size) ⟨va_cnB 3 hts gX3_lookAtMan_X10_setAt_n69 rfl rfl rfl (nM_27 hN) (hts _ w0_2) hdX10_setAt ⟨Nat.le_of_ble_eq_true rfl, Nat.le_of_ble_eq_true rfl⟩, hts _ w11_10, trivial⟩ ⟨kBlind, fun U hU hW => ⟨rfl, by rw [hU], hN.warm hW, hE.pass hS hFc hW hU, by rw [hU]; exact hPc, va_K.moved hW.alike hK, hDc⟩⟩ rfl rfl hl.1 rfl (lv_room (Nat.le_of_ble_eq_true rfl)) dX3_lookAtMan_81 ⟨Nat.le_of_ble_eq_true rfl, Nat.le_of_ble_eq_true rfl⟩) (fun u H locs hw hP hD hS => ?_)
    obtain ⟨g475, rfl⟩ : ∃ z, z = u := ⟨_, rfl⟩
    have hP : va_P D vwCl [(d0, oX3 t0 b0 c0 n0 p0 s0 bc cc_), (t0, kcJ cJ 4096 et), (b0, kcI cI 10 eb), (c0, kcI cI 12 ec), (p0, kcI cI 120 g472), (s0, kcI cI 10 es), (h, oX0 m1 m2 m3 mc sc tx nr ra ru dy wa se none), (m1, kcI cI 50 f1), (m2, kcI cI 72 f2), (m3, kcJ cJ 30 f3), (n0, kcI cI 10 g475)] H := hP
    have hD : va_D A [(d0, oX3 t0 b0 c0 n0 p0 s0 bc cc_), (t0, kcJ cJ 4096 et), (b0, kcI cI 10 eb), (c0, kcI cI 12 ec), (p0, kcI cI 120 g472), (s0, kcI cI 10 es), (h, oX0 m1 m2 m3 mc sc tx nr ra ru dy wa se none), (m1, kcI cI 50 f1), (m2, kcI cI 72 f2), (m3, kcJ cJ 30 f3), (n0, kcI cI 10 g475)] := hD
    have k476 := hw
    have hP9 := hP.sub (ws' := [(d0, oX3 t0 b0 c0 n0 p0 s0 bc cc_), (t0, kcJ cJ 4096 et), (b0, kcI cI 10 eb), (c0, kcI cI 12 ec), (n0, kcI cI 10 g475), (p0, kcI cI 120 g472), (s0, kcI cI 10 es), (h, oX0 m1 m2 m3 mc sc tx nr ra ru dy wa se none), (m1, kcI cI 50 f1), (m2, kcI cI 72 f2), (m3, kcJ cJ 30 f3)]) [0, 1, 2, 3, 10, 4, 5, 6, 7, 8, 9] rfl
    have hD9 := hD.sub (ws' := [(d0, oX3 t0 b0 c0 n0 p0 s0 bc cc_), (t0, kcJ cJ 4096 et), (b0, kcI cI 10 eb), (c0, kcI cI 12 ec), (n0, kcI cI 10 g475), (p0, kcI cI 120 g472), (s0, kcI cI 10 es), (h, oX0 m1 m2 m3 mc sc tx nr ra ru dy wa se none), (m1, kcI cI 50 f1), (m2, kcI cI 72 f2), (m3, kcJ cJ 30 f3)]) [0, 1, 2, 3, 10, 4, 5, 6, 7, 8, 9] (by decide) rfl
    exact W.vret hx hb hr (fun t ht hW => ⟨⟨(g475, g472), rfl, (hF1.trans (kIter_out (kC_eq rfl (kC_eq rfl (kif_t (leI c474) (kLet_eq (k476).symm rfl)))))), by rw [ht]; exact hP9, va_K.moved hW.alike hK, hD9⟩, hS.F ht⟩) hS.2.2 dX3_lookAtMan_84
  · skip
    have k477 : Rg y470 0 11 := rg_l1 (nleI c474) hy470 H_cc_ (by decide)
    have k478 : Rg cc_ 1 12 := rg_l2 (nleI c474) hy470 H_cc_ (by decide)
    refine lv_aload_n hx hb dX3_lookAtMan_14 rfl (lv_at hl 2 rfl) ?_
    refine va_get (D := D) (ci := 3) (v := .ref c0) (C := RX3) (T := TX3) (N := 8) hx hb hts iG_X3 hown hK hP 0 rfl rfl 2 (by decide) (hts _ w4_6) (fun _ h9 => h9) rfl dX3_lookAtMan_15 ?_
    refine lv_iload hx hb dX3_lookAtMan_18 (lv_at hl 0 rfl) ?_
    refine kpurei (wc := [(c0, kcI cI 12 ec)]) hP hD hS hA [3] rfl (by decide) (fun hPc hDc hFc => va_runSN (As := [.ref c0, .int y470]) (rest := []) ⟨hx, hb, hml, hown, hts⟩ (z_valueAt l D cI cJ cB cC c0 12 ec y470 H.size) ⟨va_cnB 2 hts gX3_lookAtMan_X10_valueAt_n57 rfl rfl rfl (nM_19 hN) (hts _ w0_2) hdX10_valueAt ⟨Nat.le_of_ble_eq_true rfl, Nat.le_of_ble_eq_true rfl⟩, hts _ w8_9, trivial⟩ ⟨kBlind, fun U hU hW => ⟨rfl, by rw [hU], hN.warm hW, hE.pass hS hFc hW hU, by rw [hU]; exact hPc, va_K.moved hW.alike hK, hDc⟩⟩ rfl rfl hl.1 rfl (lv_room (Nat.le_of_ble_eq_true rfl)) dX3_lookAtMan_20 ⟨Nat.le_of_ble_eq_true rfl, Nat.le_of_ble_eq_true rfl⟩) (fun r479 u H locs hw hP hS => ?_)
    have k480 := hw
    refine lv_istore (lv' := [(5, .int r479), (4, .int y470), (3, .int y471), (0, .ref d0), (1, .ref h), (2, .int a1)]) hx hb dX3_lookAtMan_23 hl (by decide) rfl (fun ls hl => ?_)
    refine lv_aload_n hx hb dX3_lookAtMan_25 rfl (lv_at hl 4 rfl) ?_
    refine lv_iload_n hx hb dX3_lookAtMan_26 rfl (lv_at hl 5 rfl) ?_
    refine lv_iload hx hb dX3_lookAtMan_27 (lv_at hl 0 rfl) ?_
    refine kpurei (wc := [(h, oX0 m1 m2 m3 mc sc tx nr ra ru dy wa se none), (m1, kcI cI 50 f1), (m2, kcI cI 72 f2), (m3, kcJ cJ 30 f3)]) hP hD hS hA [7, 8, 9, 10] rfl (by decide) (fun hPc hDc hFc => va_runVN (C := RX0) (As := [.int a1, .int r479]) (rest := []) ⟨hx, hb, hml, hown, hts⟩ (z_Camp_forbids_n l D cI cJ cB cC h m1 m2 m3 mc sc tx nr ra ru dy wa se f1 f2 f3 a1 r479 H.size) ⟨va_cnB 2 hts gX3_lookAtMan_X0_forbids_n61 rfl rfl rfl (nM_20 hN) (hts _ w0_19) hdX0_forbids ⟨Nat.le_of_ble_eq_true rfl, Nat.le_of_ble_eq_true rfl⟩, hts _ w28_23, hts _ w29_0⟩ ⟨kBlind, va_recv hK hPc (ci := 0) (q0 := 0) rfl rfl, fun U hU hW => ⟨rfl, by rw [hU], hN.warm hW, hE.pass hS hFc hW hU, by rw [hU]; exact hPc, va_K.moved hW.alike hK, hDc⟩⟩ rfl rfl hl.1 rfl (lv_room (Nat.le_of_ble_eq_true rfl)) dX3_lookAtMan_29 ⟨Nat.le_of_ble_eq_true rfl, Nat.le_of_ble_eq_true rfl⟩) (fun r481 u H locs hw hP hS => ?_)
    obtain ⟨k482, hw⟩ := hw
    rcases hw with rfl | rfl
    · skip
      refine lv_if_ne (tgt := 66) hx hb dX3_lookAtMan_32 (by decide) (fun c498 => absurd (by decide) c498) (fun _ => ?_)
      refine lv_iload_n hx hb dX3_lookAtMan_35 rfl (lv_at hl 2 rfl) ?_
      refine lv_iconst (v := 1) hx hb dX3_lookAtMan_36 (by decide) ?_
      refine lv_iload hx hb dX3_lookAtMan_37 (lv_at hl 1 rfl) ?_
      refine lv_ishl hx hb dX3_lookAtMan_39 ?_
      refine lv_topi (fun x499 ex499 => ?_)
      have k500 : Rg x499 1 2048 := rg_shl1 11 ex499 k477 (by decide)
      refine lv_ior hx hb dX3_lookAtMan_40 ?_
      refine lv_topi (fun x501 ex501 => ?_)
      have k502 : Rg x501 0 4095 := rg_or 12 ex501 hy471 k500 (by decide)
      refine lv_istore_n (lv' := [(3, .int x501), (5, .int r479), (4, .int y470), (0, .ref d0), (1, .ref h), (2, .int a1)]) hx hb dX3_lookAtMan_41 rfl hl (by decide) rfl (fun ls hl => ?_)
      refine lv_aload_n hx hb dX3_lookAtMan_42 rfl (lv_at hl 3 rfl) ?_
      refine va_get (D := D) (ci := 3) (v := .ref p0) (C := RX3) (T := TX3) (N := 8) hx hb hts iG_X3 hown hK hP 0 rfl rfl 4 (by decide) (hts _ w4_8) (fun _ h9 => h9) rfl dX3_lookAtMan_43 ?_
      refine lv_aload_n hx hb dX3_lookAtMan_46 rfl (lv_at hl 3 rfl) ?_
      refine va_get (D := D) (ci := 3) (v := .int bc) (C := RX3) (T := TX3) (N := 8) hx hb hts iG_X3 hown hK hP 0 rfl rfl 6 (by decide) (hts _ w4_10) (fun _ h9 => h9) rfl dX3_lookAtMan_47 ?_
      refine lv_bipush (v := 12) hx hb dX3_lookAtMan_50 (by decide) ?_
      refine lv_imul hx hb dX3_lookAtMan_52 ?_
      refine lv_topi (fun x503 ex503 => ?_)
      have k504 : Rg x503 0 108 := rg_mul ex503 H_bc (rg_lit (n := 12) (by decide)) (by decide)
      refine lv_iload hx hb dX3_lookAtMan_53 (lv_at hl 2 rfl) ?_
      refine lv_iadd hx hb dX3_lookAtMan_55 ?_
      refine lv_topi (fun x505 ex505 => ?_)
      have k506 : Rg x505 0 119 := rg_add ex505 k504 k477 (by decide)
      refine lv_aload_n hx hb dX3_lookAtMan_56 rfl (lv_at hl 4 rfl) ?_
      refine lv_iload_n hx hb dX3_lookAtMan_57 rfl (lv_at hl 5 rfl) ?_
      refine lv_iload hx hb dX3_lookAtMan_58 (lv_at hl 1 rfl) ?_
      refine kpurei (wc := [(h, oX0 m1 m2 m3 mc sc tx nr ra ru dy wa se none), (m1, kcI cI 50 f1), (m2, kcI cI 72 f2), (m3, kcJ cJ 30 f3)]) hP hD hS hA [7, 8, 9, 10] rfl (by decide) (fun hPc hDc hFc => va_runVN (C := RX0) (As := [.int a1, .int r479]) (rest := [.int x505, .ref p0]) ⟨hx, hb, hml, hown, hts⟩ (z_Camp_priceOf_n l D cI cJ cB cC h m1 m2 m3 mc sc tx nr ra ru dy wa se f1 f2 f3 a1 r479 H.size) ⟨va_cnB 2 hts gX3_lookAtMan_X0_priceOf_n65 rfl rfl rfl (nM_25 hN) (hts _ w0_19) hdX0_priceOf ⟨Nat.le_of_ble_eq_true rfl, Nat.le_of_ble_eq_true rfl⟩, hts _ w31_6, hts _ w31_7⟩ ⟨kBlind, va_recv hK hPc (ci := 0) (q0 := 0) rfl rfl, fun U hU hW => ⟨rfl, by rw [hU], hN.warm hW, hE.pass hS hFc hW hU, by rw [hU]; exact hPc, va_K.moved hW.alike hK, hDc⟩⟩ rfl rfl hl.1 rfl (lv_room (Nat.le_of_ble_eq_true rfl)) dX3_lookAtMan_60 ⟨Nat.le_of_ble_eq_true rfl, Nat.le_of_ble_eq_true rfl⟩) (fun r507 u H locs hw hP hS => ?_)
      obtain ⟨k508, k509⟩ := hw
      refine kcallv (wc := [(p0, kcI cI 120 g472)]) (wr := [(d0, oX3 t0 b0 c0 n0 p0 s0 bc cc_), (t0, kcJ cJ 4096 et), (b0, kcI cI 10 eb), (c0, kcI cI 12 ec), (n0, kcI cI 10 en), (s0, kcI cI 10 es), (h, oX0 m1 m2 m3 mc sc tx nr ra ru dy wa se none), (m1, kcI cI 50 f1), (m2, kcI cI 72 f2), (m3, kcJ cJ 30 f3)]) hP hD hS hA [5] [0, 1, 2, 3, 4, 6, 7, 8, 9, 10] rfl rfl (by decide) (by decide) (by decide) (fun hPc hDc hFc => va_runSN (As := [.ref p0, .int x505, .int r507]) (rest := []) ⟨hx, hb, hml, hown, hts⟩ (z_setAt l D cI cJ cB cC p0 120 g472 x505 r507 H.size) ⟨va_cnB 3 hts gX3_lookAtMan_X10_setAt_n69 rfl rfl rfl (nM_27 hN) (hts _ w0_2) hdX10_setAt ⟨Nat.le_of_ble_eq_true rfl, Nat.le_of_ble_eq_true rfl⟩, hts _ w11_10, trivial⟩ ⟨kBlind, fun U hU hW => ⟨rfl, by rw [hU], hN.warm hW, hE.pass hS hFc hW hU, by rw [hU]; exact hPc, va_K.moved hW.alike hK, hDc⟩⟩ rfl rfl hl.1 rfl (lv_room (Nat.le_of_ble_eq_true rfl)) dX3_lookAtMan_63 ⟨Nat.le_of_ble_eq_true rfl, Nat.le_of_ble_eq_true rfl⟩) (fun u H locs hw hP hD hS => ?_)
      obtain ⟨g510, rfl⟩ : ∃ z, z = u := ⟨_, rfl⟩
      have hP : va_P D vwCl [(d0, oX3 t0 b0 c0 n0 p0 s0 bc cc_), (t0, kcJ cJ 4096 et), (b0, kcI cI 10 eb), (c0, kcI cI 12 ec), (n0, kcI cI 10 en), (s0, kcI cI 10 es), (h, oX0 m1 m2 m3 mc sc tx nr ra ru dy wa se none), (m1, kcI cI 50 f1), (m2, kcI cI 72 f2), (m3, kcJ cJ 30 f3), (p0, kcI cI 120 g510)] H := hP
      have hD : va_D A [(d0, oX3 t0 b0 c0 n0 p0 s0 bc cc_), (t0, kcJ cJ 4096 et), (b0, kcI cI 10 eb), (c0, kcI cI 12 ec), (n0, kcI cI 10 en), (s0, kcI cI 10 es), (h, oX0 m1 m2 m3 mc sc tx nr ra ru dy wa se none), (m1, kcI cI 50 f1), (m2, kcI cI 72 f2), (m3, kcJ cJ 30 f3), (p0, kcI cI 120 g510)] := hD
      have k511 := hw
      obtain ⟨x512, ex512⟩ : ∃ y : Int32, y = y470 + 1 := ⟨_, rfl⟩
      refine lv_iinc (v := x512) (lv' := [(4, .int x512), (3, .int x501), (5, .int r479), (0, .ref d0), (1, .ref h), (2, .int a1)]) hx hb dX3_lookAtMan_66 hl (k := 2) rfl (by rw [ex512]; rfl) (by decide) rfl (fun ls hl => ?_)
      have k513 : Rg x512 1 12 := rg_add ex512 k477 (rg_lit (n := 1) (by decide)) (by decide)
      refine lv_goto (tgt := 5) hx hb dX3_lookAtMan_69 (by decide) ?_
      exact ih473 (x512, x501, g510) _ _ _ (by show (12 - (x512).toInt).toNat < (12 - (y470).toInt).toNat; exact mu_up ex512 k477 k513 (by decide)) ⟨(hF1.trans (kIter_go (kC_eq rfl (kC_eq rfl (kif_f (xF_le c474) (kLet_eq (k480).symm (kLet_eq (k482).symm (kif_t rfl (kLet_eq (ke_shl ex499) (kLet_eq (ke_or ex501) (kLet_eq (ti_mul ex503 H_bc (rg_lit (n := 12) (by decide)) (by decide) rfl rfl) (kLet_eq (ti_add ex505 k504 k477 (by decide) rfl rfl) (kLet_eq (k509).symm (kLet_eq (k511).symm (kLet_eq (ti_add ex512 k477 (rg_lit (n := 1) (by decide)) (by decide) rfl rfl) rfl))))))))))))))), (rg_w k513 (by decide)), k502, hP.sub (ws' := [(d0, oX3 t0 b0 c0 n0 p0 s0 bc cc_), (t0, kcJ cJ 4096 et), (b0, kcI cI 10 eb), (c0, kcI cI 12 ec), (n0, kcI cI 10 en), (p0, kcI cI 120 g510), (s0, kcI cI 10 es), (h, oX0 m1 m2 m3 mc sc tx nr ra ru dy wa se none), (m1, kcI cI 50 f1), (m2, kcI cI 72 f2), (m3, kcJ cJ 30 f3)]) [0, 1, 2, 3, 4, 10, 5, 6, 7, 8, 9] rfl, hD.sub (ws' := [(d0, oX3 t0 b0 c0 n0 p0 s0 bc cc_), (t0, kcJ cJ 4096 et), (b0, kcI cI 10 eb), (c0, kcI cI 12 ec), (n0, kcI cI 10 en), (p0, kcI cI 120 g510), (s0, kcI cI 10 es), (h, oX0 m1 m2 m3 mc sc tx nr ra ru dy wa se none), (m1, kcI cI 50 f1), (m2, kcI cI 72 f2), (m3, kcJ cJ 30 f3)]) [0, 1, 2, 3, 4, 10, 5, 6, 7, 8, 9] (by decide) rfl, hS, lv_sub (l' := [(4, .int x512), (3, .int x501), (0, .ref d0), (1, .ref h), (2, .int a1)]) hl [0, 1, 3, 4, 5] rfl⟩
    · skip
      refine lv_if_ne (tgt := 66) hx hb dX3_lookAtMan_32 (by decide) (fun _ => ?_) (fun c515 => absurd c515 (by decide))
      obtain ⟨x516, ex516⟩ : ∃ y : Int32, y = y470 + 1 := ⟨_, rfl⟩
      refine lv_iinc (v := x516) (lv' := [(4, .int x516), (5, .int r479), (3, .int y471), (0, .ref d0), (1, .ref h), (2, .int a1)]) hx hb dX3_lookAtMan_66 hl (k := 1) rfl (by rw [ex516]; rfl) (by decide) rfl (fun ls hl => ?_)
      have k517 : Rg x516 1 12 := rg_add ex516 k477 (rg_lit (n := 1) (by decide)) (by decide)
      refine lv_goto (tgt := 5) hx hb dX3_lookAtMan_69 (by decide) ?_
      exact ih473 (x516, y471, g472) _ _ _ (by show (12 - (x516).toInt).toNat < (12 - (y470).toInt).toNat; exact mu_up ex516 k477 k517 (by decide)) ⟨(hF1.trans (kIter_go (kC_eq rfl (kC_eq rfl (kif_f (xF_le c474) (kLet_eq (k480).symm (kLet_eq (k482).symm (kif_f (by decide) (kLet_eq (ti_add ex516 k477 (rg_lit (n := 1) (by decide)) (by decide) rfl rfl) rfl))))))))), (rg_w k517 (by decide)), hy471, hP.sub (ws' := [(d0, oX3 t0 b0 c0 n0 p0 s0 bc cc_), (t0, kcJ cJ 4096 et), (b0, kcI cI 10 eb), (c0, kcI cI 12 ec), (n0, kcI cI 10 en), (p0, kcI cI 120 g472), (s0, kcI cI 10 es), (h, oX0 m1 m2 m3 mc sc tx nr ra ru dy wa se none), (m1, kcI cI 50 f1), (m2, kcI cI 72 f2), (m3, kcJ cJ 30 f3)]) [0, 1, 2, 3, 4, 5, 6, 7, 8, 9, 10] rfl, hD.sub (ws' := [(d0, oX3 t0 b0 c0 n0 p0 s0 bc cc_), (t0, kcJ cJ 4096 et), (b0, kcI cI 10 eb), (c0, kcI cI 12 ec), (n0, kcI cI 10 en), (p0, kcI cI 120 g472), (s0, kcI cI 10 es), (h, oX0 m1 m2 m3 mc sc tx nr ra ru dy wa se none), (m1, kcI cI 50 f1), (m2, kcI cI 72 f2), (m3, kcJ cJ 30 f3)]) [0, 1, 2, 3, 4, 5, 6, 7, 8, 9, 10] (by decide) rfl, hS, lv_sub (l' := [(4, .int x516), (3, .int y471), (0, .ref d0), (1, .ref h), (2, .int a1)]) hl [0, 2, 3, 4, 5] rfl⟩

def kwX3_look : List Cond := .code yX3_look cX3_look 3 none :: kG
theorem hdX3_look : yX3_look.cls ≠ "java/lang/invoke/MethodHandle" ∧ yX3_look.cls ≠ "java/lang/invoke/VarHandle" ∧ (parseMethodDescriptor yX3_look.desc).map (fun d => d.parameters.length) = some 1 := by decide +kernel
theorem gX3_look_X0_isBare_n50 : GoodIn kG (kwX0_isBare) := gK w14_23 gGG
theorem gX3_look_X0_isInChest_n43 : GoodIn kG (kwX0_isInChest) := gK w15_9 gGG
theorem gX3_look_X3_lookAtMan : GoodIn kG (wsV RX3 53 RX3 yX3_lookAtMan kwX3_lookAtMan) := gK w38_23 (gK w39_0 (gK w39_1 (gK w1_13 (gK w39_2 gGG))))
theorem dX3_look_0 : decode cX3_look 0 = .ok (.aload_n 0, 1) := by decide +kernel
theorem dX3_look_1 : decode cX3_look 1 = .ok (.iconst 0, 1) := by decide +kernel
theorem dX3_look_2 : decode cX3_look 2 = .ok (.putfield 31, 3) := by decide +kernel
theorem dX3_look_5 : decode cX3_look 5 = .ok (.aload_n 0, 1) := by decide +kernel
theorem dX3_look_6 : decode cX3_look 6 = .ok (.iconst 0, 1) := by decide +kernel
theorem dX3_look_7 : decode cX3_look 7 = .ok (.putfield 35, 3) := by decide +kernel
theorem dX3_look_10 : decode cX3_look 10 = .ok (.iconst 0, 1) := by decide +kernel
theorem dX3_look_11 : decode cX3_look 11 = .ok (.istore_n 2, 1) := by decide +kernel
theorem dX3_look_12 : decode cX3_look 12 = .ok (.iload_n 2, 1) := by decide +kernel
theorem dX3_look_13 : decode cX3_look 13 = .ok (.aload_n 1, 1) := by decide +kernel
theorem dX3_look_14 : decode cX3_look 14 = .ok (.getfield 38, 3) := by decide +kernel
theorem dX3_look_17 : decode cX3_look 17 = .ok (.if_icmp .ge 49, 3) := by decide +kernel
theorem dX3_look_20 : decode cX3_look 20 = .ok (.aload_n 0, 1) := by decide +kernel
theorem dX3_look_21 : decode cX3_look 21 = .ok (.getfield 35, 3) := by decide +kernel
theorem dX3_look_24 : decode cX3_look 24 = .ok (.aload_n 0, 1) := by decide +kernel
theorem dX3_look_25 : decode cX3_look 25 = .ok (.getfield 19, 3) := by decide +kernel
theorem dX3_look_28 : decode cX3_look 28 = .ok (.arraylength, 1) := by decide +kernel
theorem dX3_look_29 : decode cX3_look 29 = .ok (.if_icmp .ge 37, 3) := by decide +kernel
theorem dX3_look_32 : decode cX3_look 32 = .ok (.aload_n 1, 1) := by decide +kernel
theorem dX3_look_33 : decode cX3_look 33 = .ok (.iload_n 2, 1) := by decide +kernel
theorem dX3_look_34 : decode cX3_look 34 = .ok (.invokevirtual 43, 3) := by decide +kernel
theorem dX3_look_37 : decode cX3_look 37 = .ok (.ifCond .eq 23, 3) := by decide +kernel
theorem dX3_look_40 : decode cX3_look 40 = .ok (.aload_n 0, 1) := by decide +kernel
theorem dX3_look_41 : decode cX3_look 41 = .ok (.getfield 19, 3) := by decide +kernel
theorem dX3_look_44 : decode cX3_look 44 = .ok (.aload_n 0, 1) := by decide +kernel
theorem dX3_look_45 : decode cX3_look 45 = .ok (.getfield 35, 3) := by decide +kernel
theorem dX3_look_48 : decode cX3_look 48 = .ok (.iload_n 2, 1) := by decide +kernel
theorem dX3_look_49 : decode cX3_look 49 = .ok (.iastore, 1) := by decide +kernel
theorem dX3_look_50 : decode cX3_look 50 = .ok (.aload_n 0, 1) := by decide +kernel
theorem dX3_look_51 : decode cX3_look 51 = .ok (.dup, 1) := by decide +kernel
theorem dX3_look_52 : decode cX3_look 52 = .ok (.getfield 35, 3) := by decide +kernel
theorem dX3_look_55 : decode cX3_look 55 = .ok (.iconst 1, 1) := by decide +kernel
theorem dX3_look_56 : decode cX3_look 56 = .ok (.iadd, 1) := by decide +kernel
theorem dX3_look_57 : decode cX3_look 57 = .ok (.putfield 35, 3) := by decide +kernel
theorem dX3_look_60 : decode cX3_look 60 = .ok (.iinc 2 1, 3) := by decide +kernel
theorem dX3_look_63 : decode cX3_look 63 = .ok (.goto (-51), 3) := by decide +kernel
theorem dX3_look_66 : decode cX3_look 66 = .ok (.iconst 0, 1) := by decide +kernel
theorem dX3_look_67 : decode cX3_look 67 = .ok (.istore_n 2, 1) := by decide +kernel
theorem dX3_look_68 : decode cX3_look 68 = .ok (.iload_n 2, 1) := by decide +kernel
theorem dX3_look_69 : decode cX3_look 69 = .ok (.aload_n 1, 1) := by decide +kernel
theorem dX3_look_70 : decode cX3_look 70 = .ok (.getfield 47, 3) := by decide +kernel
theorem dX3_look_73 : decode cX3_look 73 = .ok (.if_icmp .ge 55, 3) := by decide +kernel
theorem dX3_look_76 : decode cX3_look 76 = .ok (.aload_n 0, 1) := by decide +kernel
theorem dX3_look_77 : decode cX3_look 77 = .ok (.getfield 31, 3) := by decide +kernel
theorem dX3_look_80 : decode cX3_look 80 = .ok (.aload_n 0, 1) := by decide +kernel
theorem dX3_look_81 : decode cX3_look 81 = .ok (.getfield 15, 3) := by decide +kernel
theorem dX3_look_84 : decode cX3_look 84 = .ok (.arraylength, 1) := by decide +kernel
theorem dX3_look_85 : decode cX3_look 85 = .ok (.if_icmp .ge 43, 3) := by decide +kernel
theorem dX3_look_88 : decode cX3_look 88 = .ok (.aload_n 1, 1) := by decide +kernel
theorem dX3_look_89 : decode cX3_look 89 = .ok (.iload_n 2, 1) := by decide +kernel
theorem dX3_look_90 : decode cX3_look 90 = .ok (.invokevirtual 50, 3) := by decide +kernel
theorem dX3_look_93 : decode cX3_look 93 = .ok (.ifCond .eq 29, 3) := by decide +kernel
theorem dX3_look_96 : decode cX3_look 96 = .ok (.aload_n 0, 1) := by decide +kernel
theorem dX3_look_97 : decode cX3_look 97 = .ok (.getfield 15, 3) := by decide +kernel
theorem dX3_look_100 : decode cX3_look 100 = .ok (.aload_n 0, 1) := by decide +kernel
theorem dX3_look_101 : decode cX3_look 101 = .ok (.getfield 31, 3) := by decide +kernel
theorem dX3_look_104 : decode cX3_look 104 = .ok (.iload_n 2, 1) := by decide +kernel
theorem dX3_look_105 : decode cX3_look 105 = .ok (.iastore, 1) := by decide +kernel
theorem dX3_look_106 : decode cX3_look 106 = .ok (.aload_n 0, 1) := by decide +kernel
theorem dX3_look_107 : decode cX3_look 107 = .ok (.aload_n 1, 1) := by decide +kernel
theorem dX3_look_108 : decode cX3_look 108 = .ok (.iload_n 2, 1) := by decide +kernel
theorem dX3_look_109 : decode cX3_look 109 = .ok (.invokevirtual 53, 3) := by decide +kernel
theorem dX3_look_112 : decode cX3_look 112 = .ok (.aload_n 0, 1) := by decide +kernel
theorem dX3_look_113 : decode cX3_look 113 = .ok (.dup, 1) := by decide +kernel
theorem dX3_look_114 : decode cX3_look 114 = .ok (.getfield 31, 3) := by decide +kernel
theorem dX3_look_117 : decode cX3_look 117 = .ok (.iconst 1, 1) := by decide +kernel
theorem dX3_look_118 : decode cX3_look 118 = .ok (.iadd, 1) := by decide +kernel
theorem dX3_look_119 : decode cX3_look 119 = .ok (.putfield 31, 3) := by decide +kernel
theorem dX3_look_122 : decode cX3_look 122 = .ok (.iinc 2 1, 3) := by decide +kernel
theorem dX3_look_125 : decode cX3_look 125 = .ok (.goto (-57), 3) := by decide +kernel
theorem dX3_look_128 : decode cX3_look 128 = .ok (.return_, 1) := by decide +kernel
set_option maxHeartbeats 4000000 in
set_option maxRecDepth 100000 in
/-- Handing.look (n) -/
theorem z_Hand_look_n (l : Launch) (D : va_G) (cI cJ cB cC : ClassId) (d0 : Nat) (t0 : Nat) (b0 : Nat) (c0 : Nat) (n0 : Nat) (p0 : Nat) (s0 : Nat) (bc : Int32) (cc_ : Int32) (et : Nat → Int64) (eb : Nat → Int32) (ec : Nat → Int32) (en : Nat → Int32) (ep : Nat → Int32) (es : Nat → Int32) (h : Nat) (m1 : Nat) (m2 : Nat) (m3 : Nat) (mc : Int32) (sc : Int32) (tx : Int32) (nr : Int32) (ra : Int32) (ru : Int32) (dy : Int32) (wa : Int32) (se : Int32) (f1 : Nat → Int32) (f2 : Nat → Int32) (f3 : Nat → Int64) (sz : Nat)  : Met l yX3_look kwX3_look ({ frames := 5, cells := 0, slots := 0, locals := 115 } : Room) (kPre D (kT cI cJ cB cC) sz [(d0, oX3 t0 b0 c0 n0 p0 s0 bc cc_), (t0, kcJ cJ 4096 et), (b0, kcI cI 10 eb), (c0, kcI cI 12 ec), (n0, kcI cI 10 en), (p0, kcI cI 120 ep), (s0, kcI cI 10 es), (h, oX0 m1 m2 m3 mc sc tx nr ra ru dy wa se none), (m1, kcI cI 50 f1), (m2, kcI cI 72 f2), (m3, kcJ cJ 30 f3)] [.ref d0, .ref h]) (va_Qv (fun (uu : Int32 × Int32 × (Nat → Int32) × (Nat → Int32) × (Nat → Int32) × (Nat → Int32)) => match uu with | (n0_, n1_, f2_, f3_, f4_, f5_) => Rg n0_ 0 10 ∧ Rg n1_ 0 12 ∧ F_z_Hand_look_n (gT eb) (gT ec) (gT en) (gT ep) (mc : Int32).toInt (sc : Int32).toInt (nr : Int32).toInt (gT f1) (gT f2) f3 = ((n0_ : Int32).toInt, (n1_ : Int32).toInt, (gT f2_), (gT f3_), (gT f4_), (gT f5_))) (fun (uu : Int32 × Int32 × (Nat → Int32) × (Nat → Int32) × (Nat → Int32) × (Nat → Int32)) (t : State) => match uu with | (n0_, n1_, f2_, f3_, f4_, f5_) => kB D (kT cI cJ cB cC) (va_A [(d0, oX3 t0 b0 c0 n0 p0 s0 bc cc_), (t0, kcJ cJ 4096 et), (b0, kcI cI 10 eb), (c0, kcI cI 12 ec), (n0, kcI cI 10 en), (p0, kcI cI 120 ep), (s0, kcI cI 10 es), (h, oX0 m1 m2 m3 mc sc tx nr ra ru dy wa se none), (m1, kcI cI 50 f1), (m2, kcI cI 72 f2), (m3, kcJ cJ 30 f3)] sz) [(d0, oX3 t0 b0 c0 n0 p0 s0 n0_ n1_), (t0, kcJ cJ 4096 et), (b0, kcI cI 10 f2_), (c0, kcI cI 12 f3_), (n0, kcI cI 10 f4_), (p0, kcI cI 120 f5_), (s0, kcI cI 10 es), (h, oX0 m1 m2 m3 mc sc tx nr ra ru dy wa se none), (m1, kcI cI 50 f1), (m2, kcI cI 72 f2), (m3, kcJ cJ 30 f3)] t) (va_A [(d0, oX3 t0 b0 c0 n0 p0 s0 bc cc_), (t0, kcJ cJ 4096 et), (b0, kcI cI 10 eb), (c0, kcI cI 12 ec), (n0, kcI cI 10 en), (p0, kcI cI 120 ep), (s0, kcI cI 10 es), (h, oX0 m1 m2 m3 mc sc tx nr ra ru dy wa se none), (m1, kcI cI 50 f1), (m2, kcI cI 72 f2), (m3, kcJ cJ 30 f3)] sz)) 0 0 (va_A [(d0, oX3 t0 b0 c0 n0 p0 s0 bc cc_), (t0, kcJ cJ 4096 et), (b0, kcI cI 10 eb), (c0, kcI cI 12 ec), (n0, kcI cI 10 en), (p0, kcI cI 120 ep), (s0, kcI cI 10 es), (h, oX0 m1 m2 m3 mc sc tx nr ra ru dy wa se none), (m1, kcI cI 50 f1), (m2, kcI cI 72 f2), (m3, kcJ cJ 30 f3)] sz) := by
  refine Met.ofW (cc := cX3_look) (maxL := 3) (ret := none) (by decide) rfl ?_
  intro p e s m args below meth c s₁ B hml hv
  obtain ⟨rfl, hsz, hN, hE, hP, hK, hD0⟩ := hv
  have hx := B.exec
  have hb := B.bytes
  have hr := B.returns
  have hts := fun (w : Cond) (h : w ∈ kG) => atoms_spec (ws := kwX3_look) B.pre w (List.mem_cons_of_mem _ h)
  have hown : s.vm.findClass RX3 = some m.cls := findClass_of_methodNamed B.named
  subst hsz
  have hD := hD0.self (sz := s.heap.size)
  generalize hAe : va_A [(d0, oX3 t0 b0 c0 n0 p0 s0 bc cc_), (t0, kcJ cJ 4096 et), (b0, kcI cI 10 eb), (c0, kcI cI 12 ec), (n0, kcI cI 10 en), (p0, kcI cI 120 ep), (s0, kcI cI 10 es), (h, oX0 m1 m2 m3 mc sc tx nr ra ru dy wa se none), (m1, kcI cI 50 f1), (m2, kcI cI 72 f2), (m3, kcJ cJ 30 f3)] s.heap.size = A at hD hE ⊢
  have hA : ∀ q : Nat, s.heap.size ≤ q → A q := fun q h => by rw [← hAe]; exact Or.inr h
  have hl := lv_entry ([.ref d0, .ref h]) (n := 3) (Nat.le_of_ble_eq_true rfl)
  rw [lg_entry_eq]
  generalize (lg_sl ([.ref d0, .ref h]) ++ List.replicate (3 - (lg_sl ([.ref d0, .ref h])).length) Slot.unset).toArray = ls at hl ⊢
  have hl : lv_has ls 3 [(0, .ref d0), (1, .ref h)] := hl
  obtain ⟨H, hH0⟩ : ∃ H, H = s.heap := ⟨_, rfl⟩
  have hS : va_S A s.heap H [] := by rw [hH0]; exact va_S.rf
  have hP : va_P D vwCl [(d0, oX3 t0 b0 c0 n0 p0 s0 bc cc_), (t0, kcJ cJ 4096 et), (b0, kcI cI 10 eb), (c0, kcI cI 12 ec), (n0, kcI cI 10 en), (p0, kcI cI 120 ep), (s0, kcI cI 10 es), (h, oX0 m1 m2 m3 mc sc tx nr ra ru dy wa se none), (m1, kcI cI 50 f1), (m2, kcI cI 72 f2), (m3, kcJ cJ 30 f3)] H := by rw [hH0]; exact hP
  refine kHeap hH0 ?_
  clear hH0
  refine lv_aload_n hx hb dX3_look_0 rfl (lv_at hl 0 rfl) ?_
  refine lv_iconst (v := 0) hx hb dX3_look_1 (by decide) ?_
  refine va_put (D := D) (ci := 3) (v := .int 0) (ty := .int) (C := RX3) (T := TX3) (N := 8) hx hb hts iG_X3 tyX3 tyX3_ok nmX3 hown hK hP hD hS 0 rfl rfl 6 (by decide) (hts _ w4_10) (fun _ h9 => h9) rfl (by decide +kernel) rfl rfl (Nat.le_of_ble_eq_true rfl) dX3_look_2 (fun H locs hP hD hS => ?_)
  have hP : va_P D vwCl [(d0, oX3 t0 b0 c0 n0 p0 s0 0 cc_), (t0, kcJ cJ 4096 et), (b0, kcI cI 10 eb), (c0, kcI cI 12 ec), (n0, kcI cI 10 en), (p0, kcI cI 120 ep), (s0, kcI cI 10 es), (h, oX0 m1 m2 m3 mc sc tx nr ra ru dy wa se none), (m1, kcI cI 50 f1), (m2, kcI cI 72 f2), (m3, kcJ cJ 30 f3)] H := hP
  have hD : va_D A [(d0, oX3 t0 b0 c0 n0 p0 s0 0 cc_), (t0, kcJ cJ 4096 et), (b0, kcI cI 10 eb), (c0, kcI cI 12 ec), (n0, kcI cI 10 en), (p0, kcI cI 120 ep), (s0, kcI cI 10 es), (h, oX0 m1 m2 m3 mc sc tx nr ra ru dy wa se none), (m1, kcI cI 50 f1), (m2, kcI cI 72 f2), (m3, kcJ cJ 30 f3)] := hD
  refine lv_aload_n hx hb dX3_look_5 rfl (lv_at hl 0 rfl) ?_
  refine lv_iconst (v := 0) hx hb dX3_look_6 (by decide) ?_
  refine va_put (D := D) (ci := 3) (v := .int 0) (ty := .int) (C := RX3) (T := TX3) (N := 8) hx hb hts iG_X3 tyX3 tyX3_ok nmX3 hown hK hP hD hS 0 rfl rfl 7 (by decide) (hts _ w4_11) (fun _ h9 => h9) rfl (by decide +kernel) rfl rfl (Nat.le_of_ble_eq_true rfl) dX3_look_7 (fun H locs hP hD hS => ?_)
  have hP : va_P D vwCl [(d0, oX3 t0 b0 c0 n0 p0 s0 0 0), (t0, kcJ cJ 4096 et), (b0, kcI cI 10 eb), (c0, kcI cI 12 ec), (n0, kcI cI 10 en), (p0, kcI cI 120 ep), (s0, kcI cI 10 es), (h, oX0 m1 m2 m3 mc sc tx nr ra ru dy wa se none), (m1, kcI cI 50 f1), (m2, kcI cI 72 f2), (m3, kcJ cJ 30 f3)] H := hP
  have hD : va_D A [(d0, oX3 t0 b0 c0 n0 p0 s0 0 0), (t0, kcJ cJ 4096 et), (b0, kcI cI 10 eb), (c0, kcI cI 12 ec), (n0, kcI cI 10 en), (p0, kcI cI 120 ep), (s0, kcI cI 10 es), (h, oX0 m1 m2 m3 mc sc tx nr ra ru dy wa se none), (m1, kcI cI 50 f1), (m2, kcI cI 72 f2), (m3, kcJ cJ 30 f3)] := hD
  refine lv_iconst (v := 0) hx hb dX3_look_10 (by decide) ?_
  refine lv_istore_n (lv' := [(2, .int 0), (0, .ref d0), (1, .ref h)]) hx hb dX3_look_11 rfl hl (by decide) rfl (fun ls hl => ?_)
  refine k_loop (hd := 12) (fun (u : Int32 × Int32 × (Nat → Int32)) => match u with | (y322, y323, g324) => (2147483647 - (y322).toInt).toNat) (fun (u : Int32 × Int32 × (Nat → Int32)) (H : Heap) (locs : List Loc) (ls : Array Slot) => match u with | (y322, y323, g324) => (F_z_Hand_look_n (gT eb) (gT ec) (gT en) (gT ep) mc.toInt sc.toInt nr.toInt (gT f1) (gT f2) f3 = F_z_Hand_look_n_l1 (gT eb) (gT en) (gT ep) mc.toInt sc.toInt nr.toInt (gT f1) (gT f2) f3 (y322.toInt, y323.toInt, (gT g324))) ∧ Rg y322 0 2147483647 ∧ Rg y323 0 12 ∧ va_P D vwCl [(d0, oX3 t0 b0 c0 n0 p0 s0 0 y323), (t0, kcJ cJ 4096 et), (b0, kcI cI 10 eb), (c0, kcI cI 12 g324), (n0, kcI cI 10 en), (p0, kcI cI 120 ep), (s0, kcI cI 10 es), (h, oX0 m1 m2 m3 mc sc tx nr ra ru dy wa se none), (m1, kcI cI 50 f1), (m2, kcI cI 72 f2), (m3, kcJ cJ 30 f3)] H ∧ va_D A [(d0, oX3 t0 b0 c0 n0 p0 s0 0 y323), (t0, kcJ cJ 4096 et), (b0, kcI cI 10 eb), (c0, kcI cI 12 g324), (n0, kcI cI 10 en), (p0, kcI cI 120 ep), (s0, kcI cI 10 es), (h, oX0 m1 m2 m3 mc sc tx nr ra ru dy wa se none), (m1, kcI cI 50 f1), (m2, kcI cI 72 f2), (m3, kcJ cJ 30 f3)] ∧ va_S A s.heap H locs ∧ lv_has ls 3 [(2, .int y322), (0, .ref d0), (1, .ref h)]) ((0 : Int32), (0 : Int32), ec) ⟨rfl, (rg_w (rg_lit (n := 0) (by decide)) (by decide)), (rg_w (rg_lit (n := 0) (by decide)) (by decide)), hP.sub (ws' := [(d0, oX3 t0 b0 c0 n0 p0 s0 0 0), (t0, kcJ cJ 4096 et), (b0, kcI cI 10 eb), (c0, kcI cI 12 ec), (n0, kcI cI 10 en), (p0, kcI cI 120 ep), (s0, kcI cI 10 es), (h, oX0 m1 m2 m3 mc sc tx nr ra ru dy wa se none), (m1, kcI cI 50 f1), (m2, kcI cI 72 f2), (m3, kcJ cJ 30 f3)]) [0, 1, 2, 3, 4, 5, 6, 7, 8, 9, 10] rfl, hD.sub (ws' := [(d0, oX3 t0 b0 c0 n0 p0 s0 0 0), (t0, kcJ cJ 4096 et), (b0, kcI cI 10 eb), (c0, kcI cI 12 ec), (n0, kcI cI 10 en), (p0, kcI cI 120 ep), (s0, kcI cI 10 es), (h, oX0 m1 m2 m3 mc sc tx nr ra ru dy wa se none), (m1, kcI cI 50 f1), (m2, kcI cI 72 f2), (m3, kcJ cJ 30 f3)]) [0, 1, 2, 3, 4, 5, 6, 7, 8, 9, 10] (by decide) rfl, hS, lv_sub (l' := [(2, .int 0), (0, .ref d0), (1, .ref h)]) hl [0, 1, 2] rfl⟩ (fun u H locs ls hI ih325 => ?_)
  clear hP hD hS hl
  obtain ⟨y322, y323, g324⟩ := u
  obtain ⟨hF1, hy322, hy323, hP, hD, hS, hl⟩ := hI
  have hP : va_P D vwCl [(d0, oX3 t0 b0 c0 n0 p0 s0 0 y323), (t0, kcJ cJ 4096 et), (b0, kcI cI 10 eb), (c0, kcI cI 12 g324), (n0, kcI cI 10 en), (p0, kcI cI 120 ep), (s0, kcI cI 10 es), (h, oX0 m1 m2 m3 mc sc tx nr ra ru dy wa se none), (m1, kcI cI 50 f1), (m2, kcI cI 72 f2), (m3, kcJ cJ 30 f3)] H := hP
  have hD : va_D A [(d0, oX3 t0 b0 c0 n0 p0 s0 0 y323), (t0, kcJ cJ 4096 et), (b0, kcI cI 10 eb), (c0, kcI cI 12 g324), (n0, kcI cI 10 en), (p0, kcI cI 120 ep), (s0, kcI cI 10 es), (h, oX0 m1 m2 m3 mc sc tx nr ra ru dy wa se none), (m1, kcI cI 50 f1), (m2, kcI cI 72 f2), (m3, kcJ cJ 30 f3)] := hD
  have hl : lv_has ls 3 [(2, .int y322), (0, .ref d0), (1, .ref h)] := hl
  refine lv_iload_n hx hb dX3_look_12 rfl (lv_at hl 0 rfl) ?_
  refine lv_aload_n hx hb dX3_look_13 rfl (lv_at hl 2 rfl) ?_
  refine va_getN (D := D) (ci := 0) (v := .int sc) (C := RX0) (T := TX0) (N := 13) hx hb hts iG_X0 hown hK hP 7 rfl rfl 4 (by decide) (nF_4 hN) (fun _ h9 => h9) rfl dX3_look_14 ?_
  refine k_join (hd := 66) (cells2 := 0) (slots2 := 0) (fun (_ : Unit) => []) (fun (_ : Unit) (H : Heap) (locs : List Loc) (ls : Array Slot) => (F_z_Hand_look_n_l1_s (gT eb) (gT en) (gT ep) mc.toInt sc.toInt nr.toInt (gT f1) (gT f2) f3 (y322.toInt, y323.toInt, (gT g324)) = F_z_Hand_look_n_j2 (gT eb) (gT en) (gT ep) mc.toInt sc.toInt nr.toInt (gT f1) f3 y323.toInt (gT g324)) ∧ va_P D vwCl [(d0, oX3 t0 b0 c0 n0 p0 s0 0 y323), (t0, kcJ cJ 4096 et), (b0, kcI cI 10 eb), (c0, kcI cI 12 g324), (n0, kcI cI 10 en), (p0, kcI cI 120 ep), (s0, kcI cI 10 es), (h, oX0 m1 m2 m3 mc sc tx nr ra ru dy wa se none), (m1, kcI cI 50 f1), (m2, kcI cI 72 f2), (m3, kcJ cJ 30 f3)] H ∧ va_D A [(d0, oX3 t0 b0 c0 n0 p0 s0 0 y323), (t0, kcJ cJ 4096 et), (b0, kcI cI 10 eb), (c0, kcI cI 12 g324), (n0, kcI cI 10 en), (p0, kcI cI 120 ep), (s0, kcI cI 10 es), (h, oX0 m1 m2 m3 mc sc tx nr ra ru dy wa se none), (m1, kcI cI 50 f1), (m2, kcI cI 72 f2), (m3, kcJ cJ 30 f3)] ∧ va_S A s.heap H locs ∧ lv_has ls 3 [(2, .int y322), (0, .ref d0), (1, .ref h)]) (fun u H locs ls hI => ?_) (fun hJ66 => ?_)
  · skip
    clear hP hD hS hl
    obtain ⟨hF2, hP, hD, hS, hl⟩ := hI
    have hP : va_P D vwCl [(d0, oX3 t0 b0 c0 n0 p0 s0 0 y323), (t0, kcJ cJ 4096 et), (b0, kcI cI 10 eb), (c0, kcI cI 12 g324), (n0, kcI cI 10 en), (p0, kcI cI 120 ep), (s0, kcI cI 10 es), (h, oX0 m1 m2 m3 mc sc tx nr ra ru dy wa se none), (m1, kcI cI 50 f1), (m2, kcI cI 72 f2), (m3, kcJ cJ 30 f3)] H := hP
    have hD : va_D A [(d0, oX3 t0 b0 c0 n0 p0 s0 0 y323), (t0, kcJ cJ 4096 et), (b0, kcI cI 10 eb), (c0, kcI cI 12 g324), (n0, kcI cI 10 en), (p0, kcI cI 120 ep), (s0, kcI cI 10 es), (h, oX0 m1 m2 m3 mc sc tx nr ra ru dy wa se none), (m1, kcI cI 50 f1), (m2, kcI cI 72 f2), (m3, kcJ cJ 30 f3)] := hD
    have hl : lv_has ls 3 [(2, .int y322), (0, .ref d0), (1, .ref h)] := hl
    refine lv_iconst (v := 0) hx hb dX3_look_66 (by decide) ?_
    refine lv_istore_n (lv' := [(2, .int 0), (0, .ref d0), (1, .ref h)]) hx hb dX3_look_67 rfl hl (by decide) rfl (fun ls hl => ?_)
    refine k_loop (hd := 68) (fun (u : Int32 × Int32 × (Nat → Int32) × (Nat → Int32) × (Nat → Int32)) => match u with | (y743, y744, g745, g746, g747) => (2147483647 - (y743).toInt).toNat) (fun (u : Int32 × Int32 × (Nat → Int32) × (Nat → Int32) × (Nat → Int32)) (H : Heap) (locs : List Loc) (ls : Array Slot) => match u with | (y743, y744, g745, g746, g747) => (F_z_Hand_look_n_l1_s (gT eb) (gT en) (gT ep) mc.toInt sc.toInt nr.toInt (gT f1) (gT f2) f3 (y322.toInt, y323.toInt, (gT g324)) = F_z_Hand_look_n_l3 mc.toInt sc.toInt nr.toInt (gT f1) f3 y323.toInt (gT g324) (y743.toInt, y744.toInt, (gT g745), (gT g746), (gT g747))) ∧ Rg y743 0 2147483647 ∧ Rg y744 0 10 ∧ va_P D vwCl [(d0, oX3 t0 b0 c0 n0 p0 s0 y744 y323), (t0, kcJ cJ 4096 et), (b0, kcI cI 10 g745), (c0, kcI cI 12 g324), (n0, kcI cI 10 g746), (p0, kcI cI 120 g747), (s0, kcI cI 10 es), (h, oX0 m1 m2 m3 mc sc tx nr ra ru dy wa se none), (m1, kcI cI 50 f1), (m2, kcI cI 72 f2), (m3, kcJ cJ 30 f3)] H ∧ va_D A [(d0, oX3 t0 b0 c0 n0 p0 s0 y744 y323), (t0, kcJ cJ 4096 et), (b0, kcI cI 10 g745), (c0, kcI cI 12 g324), (n0, kcI cI 10 g746), (p0, kcI cI 120 g747), (s0, kcI cI 10 es), (h, oX0 m1 m2 m3 mc sc tx nr ra ru dy wa se none), (m1, kcI cI 50 f1), (m2, kcI cI 72 f2), (m3, kcJ cJ 30 f3)] ∧ va_S A s.heap H locs ∧ lv_has ls 3 [(2, .int y743), (0, .ref d0), (1, .ref h)]) ((0 : Int32), (0 : Int32), eb, en, ep) ⟨(hF2.trans rfl), (rg_w (rg_lit (n := 0) (by decide)) (by decide)), (rg_w (rg_lit (n := 0) (by decide)) (by decide)), hP.sub (ws' := [(d0, oX3 t0 b0 c0 n0 p0 s0 0 y323), (t0, kcJ cJ 4096 et), (b0, kcI cI 10 eb), (c0, kcI cI 12 g324), (n0, kcI cI 10 en), (p0, kcI cI 120 ep), (s0, kcI cI 10 es), (h, oX0 m1 m2 m3 mc sc tx nr ra ru dy wa se none), (m1, kcI cI 50 f1), (m2, kcI cI 72 f2), (m3, kcJ cJ 30 f3)]) [0, 1, 2, 3, 4, 5, 6, 7, 8, 9, 10] rfl, hD.sub (ws' := [(d0, oX3 t0 b0 c0 n0 p0 s0 0 y323), (t0, kcJ cJ 4096 et), (b0, kcI cI 10 eb), (c0, kcI cI 12 g324), (n0, kcI cI 10 en), (p0, kcI cI 120 ep), (s0, kcI cI 10 es), (h, oX0 m1 m2 m3 mc sc tx nr ra ru dy wa se none), (m1, kcI cI 50 f1), (m2, kcI cI 72 f2), (m3, kcJ cJ 30 f3)]) [0, 1, 2, 3, 4, 5, 6, 7, 8, 9, 10] (by decide) rfl, hS, lv_sub (l' := [(2, .int 0), (0, .ref d0), (1, .ref h)]) hl [0, 1, 2] rfl⟩ (fun u H locs ls hI ih748 => ?_)
    clear hP hD hS hl
    obtain ⟨y743, y744, g745, g746, g747⟩ := u
    obtain ⟨hF3, hy743, hy744, hP, hD, hS, hl⟩ := hI
    have hP : va_P D vwCl [(d0, oX3 t0 b0 c0 n0 p0 s0 y744 y323), (t0, kcJ cJ 4096 et), (b0, kcI cI 10 g745), (c0, kcI cI 12 g324), (n0, kcI cI 10 g746), (p0, kcI cI 120 g747), (s0, kcI cI 10 es), (h, oX0 m1 m2 m3 mc sc tx nr ra ru dy wa se none), (m1, kcI cI 50 f1), (m2, kcI cI 72 f2), (m3, kcJ cJ 30 f3)] H := hP
    have hD : va_D A [(d0, oX3 t0 b0 c0 n0 p0 s0 y744 y323), (t0, kcJ cJ 4096 et), (b0, kcI cI 10 g745), (c0, kcI cI 12 g324), (n0, kcI cI 10 g746), (p0, kcI cI 120 g747), (s0, kcI cI 10 es), (h, oX0 m1 m2 m3 mc sc tx nr ra ru dy wa se none), (m1, kcI cI 50 f1), (m2, kcI cI 72 f2), (m3, kcJ cJ 30 f3)] := hD
    have hl : lv_has ls 3 [(2, .int y743), (0, .ref d0), (1, .ref h)] := hl
    refine lv_iload_n hx hb dX3_look_68 rfl (lv_at hl 0 rfl) ?_
    refine lv_aload_n hx hb dX3_look_69 rfl (lv_at hl 2 rfl) ?_
    refine va_getN (D := D) (ci := 0) (v := .int mc) (C := RX0) (T := TX0) (N := 13) hx hb hts iG_X0 hown hK hP 7 rfl rfl 3 (by decide) (nF_1 hN) (fun _ h9 => h9) rfl dX3_look_70 ?_
    refine k_join (hd := 128) (cells2 := 0) (slots2 := 0) (fun (_ : Unit) => []) (fun (_ : Unit) (H : Heap) (locs : List Loc) (ls : Array Slot) => (F_z_Hand_look_n_l3_s mc.toInt sc.toInt nr.toInt (gT f1) f3 y323.toInt (gT g324) (y743.toInt, y744.toInt, (gT g745), (gT g746), (gT g747)) = F_z_Hand_look_n_j4 y323.toInt (gT g324) y744.toInt (gT g745) (gT g746) (gT g747)) ∧ va_P D vwCl [(d0, oX3 t0 b0 c0 n0 p0 s0 y744 y323), (t0, kcJ cJ 4096 et), (b0, kcI cI 10 g745), (c0, kcI cI 12 g324), (n0, kcI cI 10 g746), (p0, kcI cI 120 g747), (s0, kcI cI 10 es), (h, oX0 m1 m2 m3 mc sc tx nr ra ru dy wa se none), (m1, kcI cI 50 f1), (m2, kcI cI 72 f2), (m3, kcJ cJ 30 f3)] H ∧ va_D A [(d0, oX3 t0 b0 c0 n0 p0 s0 y744 y323), (t0, kcJ cJ 4096 et), (b0, kcI cI 10 g745), (c0, kcI cI 12 g324), (n0, kcI cI 10 g746), (p0, kcI cI 120 g747), (s0, kcI cI 10 es), (h, oX0 m1 m2 m3 mc sc tx nr ra ru dy wa se none), (m1, kcI cI 50 f1), (m2, kcI cI 72 f2), (m3, kcJ cJ 30 f3)] ∧ va_S A s.heap H locs ∧ lv_has ls 3 [(2, .int y743), (0, .ref d0), (1, .ref h)]) (fun u H locs ls hI => ?_) (fun hJ128 => ?_)
    · skip
      clear hP hD hS hl
      obtain ⟨hF4, hP, hD, hS, hl⟩ := hI
      have hP : va_P D vwCl [(d0, oX3 t0 b0 c0 n0 p0 s0 y744 y323), (t0, kcJ cJ 4096 et), (b0, kcI cI 10 g745), (c0, kcI cI 12 g324), (n0, kcI cI 10 g746), (p0, kcI cI 120 g747), (s0, kcI cI 10 es), (h, oX0 m1 m2 m3 mc sc tx nr ra ru dy wa se none), (m1, kcI cI 50 f1), (m2, kcI cI 72 f2), (m3, kcJ cJ 30 f3)] H := hP
      have hD : va_D A [(d0, oX3 t0 b0 c0 n0 p0 s0 y744 y323), (t0, kcJ cJ 4096 et), (b0, kcI cI 10 g745), (c0, kcI cI 12 g324), (n0, kcI cI 10 g746), (p0, kcI cI 120 g747), (s0, kcI cI 10 es), (h, oX0 m1 m2 m3 mc sc tx nr ra ru dy wa se none), (m1, kcI cI 50 f1), (m2, kcI cI 72 f2), (m3, kcJ cJ 30 f3)] := hD
      have hl : lv_has ls 3 [(2, .int y743), (0, .ref d0), (1, .ref h)] := hl
      have hP9 := hP.sub (ws' := [(d0, oX3 t0 b0 c0 n0 p0 s0 y744 y323), (t0, kcJ cJ 4096 et), (b0, kcI cI 10 g745), (c0, kcI cI 12 g324), (n0, kcI cI 10 g746), (p0, kcI cI 120 g747), (s0, kcI cI 10 es), (h, oX0 m1 m2 m3 mc sc tx nr ra ru dy wa se none), (m1, kcI cI 50 f1), (m2, kcI cI 72 f2), (m3, kcJ cJ 30 f3)]) [0, 1, 2, 3, 4, 5, 6, 7, 8, 9, 10] rfl
      have hD9 := hD.sub (ws' := [(d0, oX3 t0 b0 c0 n0 p0 s0 y744 y323), (t0, kcJ cJ 4096 et), (b0, kcI cI 10 g745), (c0, kcI cI 12 g324), (n0, kcI cI 10 g746), (p0, kcI cI 120 g747), (s0, kcI cI 10 es), (h, oX0 m1 m2 m3 mc sc tx nr ra ru dy wa se none), (m1, kcI cI 50 f1), (m2, kcI cI 72 f2), (m3, kcJ cJ 30 f3)]) [0, 1, 2, 3, 4, 5, 6, 7, 8, 9, 10] (by decide) rfl
      exact W.vret hx hb hr (fun t ht hW => ⟨⟨(y744, y323, g745, g324, g746, g747), rfl, ⟨hy744, hy323, (hF1.trans (kIter_out (hF3.trans (kIter_out (hF4.trans rfl)))))⟩, by rw [ht]; exact hP9, va_K.moved hW.alike hK, hD9⟩, hS.F ht⟩) hS.2.2 dX3_look_128
    refine lv_icmp_ge (tgt := 128) hx hb dX3_look_73 (by decide) (fun c770 => ?_) (fun c770 => ?_)
    · skip
      exact hJ128 () _ _ _ ⟨(kC_eq rfl (kC_eq rfl (kC_eq rfl (kC_eq rfl (kif_t (leI c770) rfl))))), hP.sub (ws' := [(d0, oX3 t0 b0 c0 n0 p0 s0 y744 y323), (t0, kcJ cJ 4096 et), (b0, kcI cI 10 g745), (c0, kcI cI 12 g324), (n0, kcI cI 10 g746), (p0, kcI cI 120 g747), (s0, kcI cI 10 es), (h, oX0 m1 m2 m3 mc sc tx nr ra ru dy wa se none), (m1, kcI cI 50 f1), (m2, kcI cI 72 f2), (m3, kcJ cJ 30 f3)]) [0, 1, 2, 3, 4, 5, 6, 7, 8, 9, 10] rfl, hD.sub (ws' := [(d0, oX3 t0 b0 c0 n0 p0 s0 y744 y323), (t0, kcJ cJ 4096 et), (b0, kcI cI 10 g745), (c0, kcI cI 12 g324), (n0, kcI cI 10 g746), (p0, kcI cI 120 g747), (s0, kcI cI 10 es), (h, oX0 m1 m2 m3 mc sc tx nr ra ru dy wa se none), (m1, kcI cI 50 f1), (m2, kcI cI 72 f2), (m3, kcJ cJ 30 f3)]) [0, 1, 2, 3, 4, 5, 6, 7, 8, 9, 10] (by decide) rfl, hS, lv_sub (l' := [(2, .int y743), (0, .ref d0), (1, .ref h)]) hl [0, 1, 2] rfl⟩
    · skip
      have k771 : Rg y743 0 2147483646 := rg_l1 (nleI c770) hy743 (rg_any mc) (by decide)
      have k772 : Rg mc 1 2147483647 := rg_l2 (nleI c770) hy743 (rg_any mc) (by decide)
      refine lv_aload_n hx hb dX3_look_76 rfl (lv_at hl 1 rfl) ?_
      refine va_get (D := D) (ci := 3) (v := .int y744) (C := RX3) (T := TX3) (N := 8) hx hb hts iG_X3 hown hK hP 0 rfl rfl 6 (by decide) (hts _ w4_10) (fun _ h9 => h9) rfl dX3_look_77 ?_
      refine lv_aload_n hx hb dX3_look_80 rfl (lv_at hl 1 rfl) ?_
      refine va_get (D := D) (ci := 3) (v := .ref b0) (C := RX3) (T := TX3) (N := 8) hx hb hts iG_X3 hown hK hP 0 rfl rfl 1 (by decide) (hts _ w4_5) (fun _ h9 => h9) rfl dX3_look_81 ?_
      refine va_alen (v := 10) hx hb hK hP 2 0 rfl rfl rfl dX3_look_84 ?_
      refine lv_icmp_ge (tgt := 128) hx hb dX3_look_85 (by decide) (fun c773 => ?_) (fun c773 => ?_)
      · skip
        have k774 : Rg y744 10 10 := rg_e2 (leI c773) (rg_lit (n := 10) (by decide)) hy744 (by decide)
        exact hJ128 () _ _ _ ⟨(kC_eq rfl (kC_eq rfl (kC_eq rfl (kC_eq rfl (kif_f (xF_le c770) (kif_t (leI c773) rfl)))))), hP.sub (ws' := [(d0, oX3 t0 b0 c0 n0 p0 s0 y744 y323), (t0, kcJ cJ 4096 et), (b0, kcI cI 10 g745), (c0, kcI cI 12 g324), (n0, kcI cI 10 g746), (p0, kcI cI 120 g747), (s0, kcI cI 10 es), (h, oX0 m1 m2 m3 mc sc tx nr ra ru dy wa se none), (m1, kcI cI 50 f1), (m2, kcI cI 72 f2), (m3, kcJ cJ 30 f3)]) [0, 1, 2, 3, 4, 5, 6, 7, 8, 9, 10] rfl, hD.sub (ws' := [(d0, oX3 t0 b0 c0 n0 p0 s0 y744 y323), (t0, kcJ cJ 4096 et), (b0, kcI cI 10 g745), (c0, kcI cI 12 g324), (n0, kcI cI 10 g746), (p0, kcI cI 120 g747), (s0, kcI cI 10 es), (h, oX0 m1 m2 m3 mc sc tx nr ra ru dy wa se none), (m1, kcI cI 50 f1), (m2, kcI cI 72 f2), (m3, kcJ cJ 30 f3)]) [0, 1, 2, 3, 4, 5, 6, 7, 8, 9, 10] (by decide) rfl, hS, lv_sub (l' := [(2, .int y743), (0, .ref d0), (1, .ref h)]) hl [0, 1, 2] rfl⟩
      · skip
        have k775 : Rg y744 0 9 := rg_l1 (nleI c773) hy744 (rg_lit (n := 10) (by decide)) (by decide)
        refine lv_aload_n hx hb dX3_look_88 rfl (lv_at hl 2 rfl) ?_
        refine lv_iload_n hx hb dX3_look_89 rfl (lv_at hl 0 rfl) ?_
        refine kpurei (wc := [(h, oX0 m1 m2 m3 mc sc tx nr ra ru dy wa se none), (m1, kcI cI 50 f1), (m2, kcI cI 72 f2), (m3, kcJ cJ 30 f3)]) hP hD hS hA [7, 8, 9, 10] rfl (by decide) (fun hPc hDc hFc => va_runVN (C := RX0) (As := [.int y743]) (rest := []) ⟨hx, hb, hml, hown, hts⟩ (z_Camp_isBare l D cI cJ cB cC h m1 m2 m3 mc sc tx nr ra ru dy wa se none f1 f2 f3 y743 H.size) ⟨va_cnB 1 hts gX3_look_X0_isBare_n50 rfl rfl rfl (nM_18 hN) (hts _ w0_19) hdX0_isBare ⟨Nat.le_of_ble_eq_true rfl, Nat.le_of_ble_eq_true rfl⟩, hts _ w14_21, hts _ w14_22⟩ ⟨kBlind, va_recv hK hPc (ci := 0) (q0 := 0) rfl rfl, fun U hU hW => ⟨rfl, by rw [hU], hN.warm hW, hE.pass hS hFc hW hU, by rw [hU]; exact hPc, va_K.moved hW.alike hK, hDc⟩⟩ rfl rfl hl.1 rfl (lv_room (Nat.le_of_ble_eq_true rfl)) dX3_look_90 ⟨Nat.le_of_ble_eq_true rfl, Nat.le_of_ble_eq_true rfl⟩) (fun r776 u H locs hw hP hS => ?_)
        obtain ⟨k777, hw⟩ := hw
        rcases hw with rfl | rfl
        · skip
          refine lv_if_eq (tgt := 122) hx hb dX3_look_93 (by decide) (fun _ => ?_) (fun c780 => absurd (by decide) c780)
          obtain ⟨x781, ex781⟩ : ∃ y : Int32, y = y743 + 1 := ⟨_, rfl⟩
          refine lv_iinc (v := x781) (lv' := [(2, .int x781), (0, .ref d0), (1, .ref h)]) hx hb dX3_look_122 hl (k := 0) rfl (by rw [ex781]; rfl) (by decide) rfl (fun ls hl => ?_)
          have k782 : Rg x781 1 2147483647 := rg_add ex781 k771 (rg_lit (n := 1) (by decide)) (by decide)
          refine lv_goto (tgt := 68) hx hb dX3_look_125 (by decide) ?_
          exact ih748 (x781, y744, g745, g746, g747) _ _ _ (by show (2147483647 - (x781).toInt).toNat < (2147483647 - (y743).toInt).toNat; exact mu_up ex781 k771 k782 (by decide)) ⟨(hF3.trans (kIter_go (kC_eq rfl (kC_eq rfl (kC_eq rfl (kC_eq rfl (kif_f (xF_le c770) (kif_f (xF_le c773) (kLet_eq (k777).symm (kif_t rfl (kLet_eq (ti_add ex781 k771 (rg_lit (n := 1) (by decide)) (by decide) rfl rfl) rfl))))))))))), (rg_w k782 (by decide)), (rg_w k775 (by decide)), hP.sub (ws' := [(d0, oX3 t0 b0 c0 n0 p0 s0 y744 y323), (t0, kcJ cJ 4096 et), (b0, kcI cI 10 g745), (c0, kcI cI 12 g324), (n0, kcI cI 10 g746), (p0, kcI cI 120 g747), (s0, kcI cI 10 es), (h, oX0 m1 m2 m3 mc sc tx nr ra ru dy wa se none), (m1, kcI cI 50 f1), (m2, kcI cI 72 f2), (m3, kcJ cJ 30 f3)]) [0, 1, 2, 3, 4, 5, 6, 7, 8, 9, 10] rfl, hD.sub (ws' := [(d0, oX3 t0 b0 c0 n0 p0 s0 y744 y323), (t0, kcJ cJ 4096 et), (b0, kcI cI 10 g745), (c0, kcI cI 12 g324), (n0, kcI cI 10 g746), (p0, kcI cI 120 g747), (s0, kcI cI 10 es), (h, oX0 m1 m2 m3 mc sc tx nr ra ru dy wa se none), (m1, kcI cI 50 f1), (m2, kcI cI 72 f2), (m3, kcJ cJ 30 f3)]) [0, 1, 2, 3, 4, 5, 6, 7, 8, 9, 10] (by decide) rfl, hS, lv_sub (l' := [(2, .int x781), (0, .ref d0), (1, .ref h)]) hl [0, 1, 2] rfl⟩
        · skip
          refine lv_if_eq (tgt := 122) hx hb dX3_look_93 (by decide) (fun c790 => absurd c790 (by decide)) (fun _ => ?_)
          refine lv_aload_n hx hb dX3_look_96 rfl (lv_at hl 1 rfl) ?_
          refine va_get (D := D) (ci := 3) (v := .ref b0) (C := RX3) (T := TX3) (N := 8) hx hb hts iG_X3 hown hK hP 0 rfl rfl 1 (by decide) (hts _ w4_5) (fun _ h9 => h9) rfl dX3_look_97 ?_
          refine lv_aload_n hx hb dX3_look_100 rfl (lv_at hl 1 rfl) ?_
          refine va_get (D := D) (ci := 3) (v := .int y744) (C := RX3) (T := TX3) (N := 8) hx hb hts iG_X3 hown hK hP 0 rfl rfl 6 (by decide) (hts _ w4_10) (fun _ h9 => h9) rfl dX3_look_101 ?_
          refine lv_iload_n hx hb dX3_look_104 rfl (lv_at hl 0 rfl) ?_
          refine va_iast hx hb hK hP hD hS 2 0 rfl rfl (rg_in k775 (by decide)) dX3_look_105 (fun H locs hP hD hS => ?_)
          have hP : va_P D vwCl [(d0, oX3 t0 b0 c0 n0 p0 s0 y744 y323), (t0, kcJ cJ 4096 et), (b0, kcI cI 10 (upd g745 y744.toNatClampNeg y743)), (c0, kcI cI 12 g324), (n0, kcI cI 10 g746), (p0, kcI cI 120 g747), (s0, kcI cI 10 es), (h, oX0 m1 m2 m3 mc sc tx nr ra ru dy wa se none), (m1, kcI cI 50 f1), (m2, kcI cI 72 f2), (m3, kcJ cJ 30 f3)] H := hP
          have hD : va_D A [(d0, oX3 t0 b0 c0 n0 p0 s0 y744 y323), (t0, kcJ cJ 4096 et), (b0, kcI cI 10 (upd g745 y744.toNatClampNeg y743)), (c0, kcI cI 12 g324), (n0, kcI cI 10 g746), (p0, kcI cI 120 g747), (s0, kcI cI 10 es), (h, oX0 m1 m2 m3 mc sc tx nr ra ru dy wa se none), (m1, kcI cI 50 f1), (m2, kcI cI 72 f2), (m3, kcJ cJ 30 f3)] := hD
          generalize hg791 : (upd g745 y744.toNatClampNeg y743) = g791 at hP hD
          refine lv_aload_n hx hb dX3_look_106 rfl (lv_at hl 1 rfl) ?_
          refine lv_aload_n hx hb dX3_look_107 rfl (lv_at hl 2 rfl) ?_
          refine lv_iload_n hx hb dX3_look_108 rfl (lv_at hl 0 rfl) ?_
          refine kcallv (wc := [(d0, oX3 t0 b0 c0 n0 p0 s0 y744 y323), (t0, kcJ cJ 4096 et), (b0, kcI cI 10 g791), (c0, kcI cI 12 g324), (n0, kcI cI 10 g746), (p0, kcI cI 120 g747), (s0, kcI cI 10 es), (h, oX0 m1 m2 m3 mc sc tx nr ra ru dy wa se none), (m1, kcI cI 50 f1), (m2, kcI cI 72 f2), (m3, kcJ cJ 30 f3)]) (wr := []) hP hD hS hA [0, 1, 2, 3, 4, 5, 6, 7, 8, 9, 10] [] rfl rfl (by decide) (by decide) (by decide) (fun hPc hDc hFc => va_runV (As := [.ref h, .int y743]) (rest := []) ⟨hx, hb, hml, hown, hts⟩ (z_Hand_lookAtMan_n l D cI cJ cB cC d0 t0 b0 c0 n0 p0 s0 y744 y323 et g791 g324 g746 g747 es h m1 m2 m3 mc sc tx nr ra ru dy wa se f1 f2 f3 y743 H.size k775 hy323) (cwV 2 hts gX3_look_X3_lookAtMan rfl rfl rfl ⟨rfl, hdX3_lookAtMan⟩ ⟨Nat.le_of_ble_eq_true rfl, Nat.le_of_ble_eq_true rfl⟩) ⟨kBlind, va_recv hK hPc (ci := 3) (q0 := 0) rfl rfl, fun U hU hW => ⟨rfl, by rw [hU], hN.warm hW, hE.pass hS hFc hW hU, by rw [hU]; exact hPc, va_K.moved hW.alike hK, hDc⟩⟩ rfl rfl hl.1 rfl (lv_room (Nat.le_of_ble_eq_true rfl)) dX3_look_109 ⟨Nat.le_of_ble_eq_true rfl, Nat.le_of_ble_eq_true rfl⟩) (fun u H locs hw hP hD hS => ?_)
          obtain ⟨g792, g793⟩ := u
          have hP : va_P D vwCl [(d0, oX3 t0 b0 c0 n0 p0 s0 y744 y323), (t0, kcJ cJ 4096 et), (b0, kcI cI 10 g791), (c0, kcI cI 12 g324), (n0, kcI cI 10 g792), (p0, kcI cI 120 g793), (s0, kcI cI 10 es), (h, oX0 m1 m2 m3 mc sc tx nr ra ru dy wa se none), (m1, kcI cI 50 f1), (m2, kcI cI 72 f2), (m3, kcJ cJ 30 f3)] H := hP
          have hD : va_D A [(d0, oX3 t0 b0 c0 n0 p0 s0 y744 y323), (t0, kcJ cJ 4096 et), (b0, kcI cI 10 g791), (c0, kcI cI 12 g324), (n0, kcI cI 10 g792), (p0, kcI cI 120 g793), (s0, kcI cI 10 es), (h, oX0 m1 m2 m3 mc sc tx nr ra ru dy wa se none), (m1, kcI cI 50 f1), (m2, kcI cI 72 f2), (m3, kcJ cJ 30 f3)] := hD
          have k794 := hw
          refine lv_aload_n hx hb dX3_look_112 rfl (lv_at hl 1 rfl) ?_
          refine lv_dup hx hb dX3_look_113 rfl ?_
          refine va_get (D := D) (ci := 3) (v := .int y744) (C := RX3) (T := TX3) (N := 8) hx hb hts iG_X3 hown hK hP 0 rfl rfl 6 (by decide) (hts _ w4_10) (fun _ h9 => h9) rfl dX3_look_114 ?_
          refine lv_iconst (v := 1) hx hb dX3_look_117 (by decide) ?_
          refine lv_iadd hx hb dX3_look_118 ?_
          refine lv_topi (fun x795 ex795 => ?_)
          have k796 : Rg x795 1 10 := rg_add ex795 k775 (rg_lit (n := 1) (by decide)) (by decide)
          refine va_put (D := D) (ci := 3) (v := .int x795) (ty := .int) (C := RX3) (T := TX3) (N := 8) hx hb hts iG_X3 tyX3 tyX3_ok nmX3 hown hK hP hD hS 0 rfl rfl 6 (by decide) (hts _ w4_10) (fun _ h9 => h9) rfl (by decide +kernel) rfl rfl (Nat.le_of_ble_eq_true rfl) dX3_look_119 (fun H locs hP hD hS => ?_)
          have hP : va_P D vwCl [(d0, oX3 t0 b0 c0 n0 p0 s0 x795 y323), (t0, kcJ cJ 4096 et), (b0, kcI cI 10 g791), (c0, kcI cI 12 g324), (n0, kcI cI 10 g792), (p0, kcI cI 120 g793), (s0, kcI cI 10 es), (h, oX0 m1 m2 m3 mc sc tx nr ra ru dy wa se none), (m1, kcI cI 50 f1), (m2, kcI cI 72 f2), (m3, kcJ cJ 30 f3)] H := hP
          have hD : va_D A [(d0, oX3 t0 b0 c0 n0 p0 s0 x795 y323), (t0, kcJ cJ 4096 et), (b0, kcI cI 10 g791), (c0, kcI cI 12 g324), (n0, kcI cI 10 g792), (p0, kcI cI 120 g793), (s0, kcI cI 10 es), (h, oX0 m1 m2 m3 mc sc tx nr ra ru dy wa se none), (m1, kcI cI 50 f1), (m2, kcI cI 72 f2), (m3, kcJ cJ 30 f3)] := hD
          obtain ⟨x797, ex797⟩ : ∃ y : Int32, y = y743 + 1 := ⟨_, rfl⟩
          refine lv_iinc (v := x797) (lv' := [(2, .int x797), (0, .ref d0), (1, .ref h)]) hx hb dX3_look_122 hl (k := 0) rfl (by rw [ex797]; rfl) (by decide) rfl (fun ls hl => ?_)
          have k798 : Rg x797 1 2147483647 := rg_add ex797 k771 (rg_lit (n := 1) (by decide)) (by decide)
          refine lv_goto (tgt := 68) hx hb dX3_look_125 (by decide) ?_
          exact ih748 (x797, x795, g791, g792, g793) _ _ _ (by show (2147483647 - (x797).toInt).toNat < (2147483647 - (y743).toInt).toNat; exact mu_up ex797 k771 k798 (by decide)) ⟨(hF3.trans (kIter_go (kC_eq rfl (kC_eq rfl (kC_eq rfl (kC_eq rfl (kif_f (xF_le c770) (kif_f (xF_le c773) (kLet_eq (k777).symm (kif_f (by decide) (kLet_eq (ke_st hg791) (kC_eq k794 (kLet_eq (ti_add ex795 k775 (rg_lit (n := 1) (by decide)) (by decide) rfl rfl) (kLet_eq (ti_add ex797 k771 (rg_lit (n := 1) (by decide)) (by decide) rfl rfl) rfl)))))))))))))), (rg_w k798 (by decide)), (rg_w k796 (by decide)), hP.sub (ws' := [(d0, oX3 t0 b0 c0 n0 p0 s0 x795 y323), (t0, kcJ cJ 4096 et), (b0, kcI cI 10 g791), (c0, kcI cI 12 g324), (n0, kcI cI 10 g792), (p0, kcI cI 120 g793), (s0, kcI cI 10 es), (h, oX0 m1 m2 m3 mc sc tx nr ra ru dy wa se none), (m1, kcI cI 50 f1), (m2, kcI cI 72 f2), (m3, kcJ cJ 30 f3)]) [0, 1, 2, 3, 4, 5, 6, 7, 8, 9, 10] rfl, hD.sub (ws' := [(d0, oX3 t0 b0 c0 n0 p0 s0 x795 y323), (t0, kcJ cJ 4096 et), (b0, kcI cI 10 g791), (c0, kcI cI 12 g324), (n0, kcI cI 10 g792), (p0, kcI cI 120 g793), (s0, kcI cI 10 es), (h, oX0 m1 m2 m3 mc sc tx nr ra ru dy wa se none), (m1, kcI cI 50 f1), (m2, kcI cI 72 f2), (m3, kcJ cJ 30 f3)]) [0, 1, 2, 3, 4, 5, 6, 7, 8, 9, 10] (by decide) rfl, hS, lv_sub (l' := [(2, .int x797), (0, .ref d0), (1, .ref h)]) hl [0, 1, 2] rfl⟩
  refine lv_icmp_ge (tgt := 66) hx hb dX3_look_17 (by decide) (fun c799 => ?_) (fun c799 => ?_)
  · skip
    exact hJ66 () _ _ _ ⟨(kC_eq rfl (kC_eq rfl (kif_t (leI c799) rfl))), hP.sub (ws' := [(d0, oX3 t0 b0 c0 n0 p0 s0 0 y323), (t0, kcJ cJ 4096 et), (b0, kcI cI 10 eb), (c0, kcI cI 12 g324), (n0, kcI cI 10 en), (p0, kcI cI 120 ep), (s0, kcI cI 10 es), (h, oX0 m1 m2 m3 mc sc tx nr ra ru dy wa se none), (m1, kcI cI 50 f1), (m2, kcI cI 72 f2), (m3, kcJ cJ 30 f3)]) [0, 1, 2, 3, 4, 5, 6, 7, 8, 9, 10] rfl, hD.sub (ws' := [(d0, oX3 t0 b0 c0 n0 p0 s0 0 y323), (t0, kcJ cJ 4096 et), (b0, kcI cI 10 eb), (c0, kcI cI 12 g324), (n0, kcI cI 10 en), (p0, kcI cI 120 ep), (s0, kcI cI 10 es), (h, oX0 m1 m2 m3 mc sc tx nr ra ru dy wa se none), (m1, kcI cI 50 f1), (m2, kcI cI 72 f2), (m3, kcJ cJ 30 f3)]) [0, 1, 2, 3, 4, 5, 6, 7, 8, 9, 10] (by decide) rfl, hS, lv_sub (l' := [(2, .int y322), (0, .ref d0), (1, .ref h)]) hl [0, 1, 2] rfl⟩
  · skip
    have k800 : Rg y322 0 2147483646 := rg_l1 (nleI c799) hy322 (rg_any sc) (by decide)
    have k801 : Rg sc 1 2147483647 := rg_l2 (nleI c799) hy322 (rg_any sc) (by decide)
    refine lv_aload_n hx hb dX3_look_20 rfl (lv_at hl 1 rfl) ?_
    refine va_get (D := D) (ci := 3) (v := .int y323) (C := RX3) (T := TX3) (N := 8) hx hb hts iG_X3 hown hK hP 0 rfl rfl 7 (by decide) (hts _ w4_11) (fun _ h9 => h9) rfl dX3_look_21 ?_
    refine lv_aload_n hx hb dX3_look_24 rfl (lv_at hl 1 rfl) ?_
    refine va_get (D := D) (ci := 3) (v := .ref c0) (C := RX3) (T := TX3) (N := 8) hx hb hts iG_X3 hown hK hP 0 rfl rfl 2 (by decide) (hts _ w4_6) (fun _ h9 => h9) rfl dX3_look_25 ?_
    refine va_alen (v := 12) hx hb hK hP 3 0 rfl rfl rfl dX3_look_28 ?_
    refine lv_icmp_ge (tgt := 66) hx hb dX3_look_29 (by decide) (fun c802 => ?_) (fun c802 => ?_)
    · skip
      have k803 : Rg y323 12 12 := rg_e2 (leI c802) (rg_lit (n := 12) (by decide)) hy323 (by decide)
      exact hJ66 () _ _ _ ⟨(kC_eq rfl (kC_eq rfl (kif_f (xF_le c799) (kif_t (leI c802) rfl)))), hP.sub (ws' := [(d0, oX3 t0 b0 c0 n0 p0 s0 0 y323), (t0, kcJ cJ 4096 et), (b0, kcI cI 10 eb), (c0, kcI cI 12 g324), (n0, kcI cI 10 en), (p0, kcI cI 120 ep), (s0, kcI cI 10 es), (h, oX0 m1 m2 m3 mc sc tx nr ra ru dy wa se none), (m1, kcI cI 50 f1), (m2, kcI cI 72 f2), (m3, kcJ cJ 30 f3)]) [0, 1, 2, 3, 4, 5, 6, 7, 8, 9, 10] rfl, hD.sub (ws' := [(d0, oX3 t0 b0 c0 n0 p0 s0 0 y323), (t0, kcJ cJ 4096 et), (b0, kcI cI 10 eb), (c0, kcI cI 12 g324), (n0, kcI cI 10 en), (p0, kcI cI 120 ep), (s0, kcI cI 10 es), (h, oX0 m1 m2 m3 mc sc tx nr ra ru dy wa se none), (m1, kcI cI 50 f1), (m2, kcI cI 72 f2), (m3, kcJ cJ 30 f3)]) [0, 1, 2, 3, 4, 5, 6, 7, 8, 9, 10] (by decide) rfl, hS, lv_sub (l' := [(2, .int y322), (0, .ref d0), (1, .ref h)]) hl [0, 1, 2] rfl⟩
    · skip
      have k804 : Rg y323 0 11 := rg_l1 (nleI c802) hy323 (rg_lit (n := 12) (by decide)) (by decide)
      refine lv_aload_n hx hb dX3_look_32 rfl (lv_at hl 2 rfl) ?_
      refine lv_iload_n hx hb dX3_look_33 rfl (lv_at hl 0 rfl) ?_
      refine kpurei (wc := [(h, oX0 m1 m2 m3 mc sc tx nr ra ru dy wa se none), (m1, kcI cI 50 f1), (m2, kcI cI 72 f2), (m3, kcJ cJ 30 f3)]) hP hD hS hA [7, 8, 9, 10] rfl (by decide) (fun hPc hDc hFc => va_runVN (C := RX0) (As := [.int y322]) (rest := []) ⟨hx, hb, hml, hown, hts⟩ (z_Camp_isInChest l D cI cJ cB cC h m1 m2 m3 mc sc tx nr ra ru dy wa se none f1 f2 f3 y322 H.size) ⟨va_cnB 1 hts gX3_look_X0_isInChest_n43 rfl rfl rfl (nM_17 hN) (hts _ w0_19) hdX0_isInChest ⟨Nat.le_of_ble_eq_true rfl, Nat.le_of_ble_eq_true rfl⟩, hts _ w15_7, hts _ w15_8⟩ ⟨kBlind, va_recv hK hPc (ci := 0) (q0 := 0) rfl rfl, fun U hU hW => ⟨rfl, by rw [hU], hN.warm hW, hE.pass hS hFc hW hU, by rw [hU]; exact hPc, va_K.moved hW.alike hK, hDc⟩⟩ rfl rfl hl.1 rfl (lv_room (Nat.le_of_ble_eq_true rfl)) dX3_look_34 ⟨Nat.le_of_ble_eq_true rfl, Nat.le_of_ble_eq_true rfl⟩) (fun r805 u H locs hw hP hS => ?_)
      obtain ⟨k806, hw⟩ := hw
      rcases hw with rfl | rfl
      · skip
        refine lv_if_eq (tgt := 60) hx hb dX3_look_37 (by decide) (fun _ => ?_) (fun c809 => absurd (by decide) c809)
        obtain ⟨x810, ex810⟩ : ∃ y : Int32, y = y322 + 1 := ⟨_, rfl⟩
        refine lv_iinc (v := x810) (lv' := [(2, .int x810), (0, .ref d0), (1, .ref h)]) hx hb dX3_look_60 hl (k := 0) rfl (by rw [ex810]; rfl) (by decide) rfl (fun ls hl => ?_)
        have k811 : Rg x810 1 2147483647 := rg_add ex810 k800 (rg_lit (n := 1) (by decide)) (by decide)
        refine lv_goto (tgt := 12) hx hb dX3_look_63 (by decide) ?_
        exact ih325 (x810, y323, g324) _ _ _ (by show (2147483647 - (x810).toInt).toNat < (2147483647 - (y322).toInt).toNat; exact mu_up ex810 k800 k811 (by decide)) ⟨(hF1.trans (kIter_go (kC_eq rfl (kC_eq rfl (kif_f (xF_le c799) (kif_f (xF_le c802) (kLet_eq (k806).symm (kif_t rfl (kLet_eq (ti_add ex810 k800 (rg_lit (n := 1) (by decide)) (by decide) rfl rfl) rfl))))))))), (rg_w k811 (by decide)), (rg_w k804 (by decide)), hP.sub (ws' := [(d0, oX3 t0 b0 c0 n0 p0 s0 0 y323), (t0, kcJ cJ 4096 et), (b0, kcI cI 10 eb), (c0, kcI cI 12 g324), (n0, kcI cI 10 en), (p0, kcI cI 120 ep), (s0, kcI cI 10 es), (h, oX0 m1 m2 m3 mc sc tx nr ra ru dy wa se none), (m1, kcI cI 50 f1), (m2, kcI cI 72 f2), (m3, kcJ cJ 30 f3)]) [0, 1, 2, 3, 4, 5, 6, 7, 8, 9, 10] rfl, hD.sub (ws' := [(d0, oX3 t0 b0 c0 n0 p0 s0 0 y323), (t0, kcJ cJ 4096 et), (b0, kcI cI 10 eb), (c0, kcI cI 12 g324), (n0, kcI cI 10 en), (p0, kcI cI 120 ep), (s0, kcI cI 10 es), (h, oX0 m1 m2 m3 mc sc tx nr ra ru dy wa se none), (m1, kcI cI 50 f1), (m2, kcI cI 72 f2), (m3, kcJ cJ 30 f3)]) [0, 1, 2, 3, 4, 5, 6, 7, 8, 9, 10] (by decide) rfl, hS, lv_sub (l' := [(2, .int x810), (0, .ref d0), (1, .ref h)]) hl [0, 1, 2] rfl⟩
      · skip
        refine lv_if_eq (tgt := 60) hx hb dX3_look_37 (by decide) (fun c816 => absurd c816 (by decide)) (fun _ => ?_)
        refine lv_aload_n hx hb dX3_look_40 rfl (lv_at hl 1 rfl) ?_
        refine va_get (D := D) (ci := 3) (v := .ref c0) (C := RX3) (T := TX3) (N := 8) hx hb hts iG_X3 hown hK hP 0 rfl rfl 2 (by decide) (hts _ w4_6) (fun _ h9 => h9) rfl dX3_look_41 ?_
        refine lv_aload_n hx hb dX3_look_44 rfl (lv_at hl 1 rfl) ?_
        refine va_get (D := D) (ci := 3) (v := .int y323) (C := RX3) (T := TX3) (N := 8) hx hb hts iG_X3 hown hK hP 0 rfl rfl 7 (by decide) (hts _ w4_11) (fun _ h9 => h9) rfl dX3_look_45 ?_
        refine lv_iload_n hx hb dX3_look_48 rfl (lv_at hl 0 rfl) ?_
        refine va_iast hx hb hK hP hD hS 3 0 rfl rfl (rg_in k804 (by decide)) dX3_look_49 (fun H locs hP hD hS => ?_)
        have hP : va_P D vwCl [(d0, oX3 t0 b0 c0 n0 p0 s0 0 y323), (t0, kcJ cJ 4096 et), (b0, kcI cI 10 eb), (c0, kcI cI 12 (upd g324 y323.toNatClampNeg y322)), (n0, kcI cI 10 en), (p0, kcI cI 120 ep), (s0, kcI cI 10 es), (h, oX0 m1 m2 m3 mc sc tx nr ra ru dy wa se none), (m1, kcI cI 50 f1), (m2, kcI cI 72 f2), (m3, kcJ cJ 30 f3)] H := hP
        have hD : va_D A [(d0, oX3 t0 b0 c0 n0 p0 s0 0 y323), (t0, kcJ cJ 4096 et), (b0, kcI cI 10 eb), (c0, kcI cI 12 (upd g324 y323.toNatClampNeg y322)), (n0, kcI cI 10 en), (p0, kcI cI 120 ep), (s0, kcI cI 10 es), (h, oX0 m1 m2 m3 mc sc tx nr ra ru dy wa se none), (m1, kcI cI 50 f1), (m2, kcI cI 72 f2), (m3, kcJ cJ 30 f3)] := hD
        generalize hg817 : (upd g324 y323.toNatClampNeg y322) = g817 at hP hD
        refine lv_aload_n hx hb dX3_look_50 rfl (lv_at hl 1 rfl) ?_
        refine lv_dup hx hb dX3_look_51 rfl ?_
        refine va_get (D := D) (ci := 3) (v := .int y323) (C := RX3) (T := TX3) (N := 8) hx hb hts iG_X3 hown hK hP 0 rfl rfl 7 (by decide) (hts _ w4_11) (fun _ h9 => h9) rfl dX3_look_52 ?_
        refine lv_iconst (v := 1) hx hb dX3_look_55 (by decide) ?_
        refine lv_iadd hx hb dX3_look_56 ?_
        refine lv_topi (fun x818 ex818 => ?_)
        have k819 : Rg x818 1 12 := rg_add ex818 k804 (rg_lit (n := 1) (by decide)) (by decide)
        refine va_put (D := D) (ci := 3) (v := .int x818) (ty := .int) (C := RX3) (T := TX3) (N := 8) hx hb hts iG_X3 tyX3 tyX3_ok nmX3 hown hK hP hD hS 0 rfl rfl 7 (by decide) (hts _ w4_11) (fun _ h9 => h9) rfl (by decide +kernel) rfl rfl (Nat.le_of_ble_eq_true rfl) dX3_look_57 (fun H locs hP hD hS => ?_)
        have hP : va_P D vwCl [(d0, oX3 t0 b0 c0 n0 p0 s0 0 x818), (t0, kcJ cJ 4096 et), (b0, kcI cI 10 eb), (c0, kcI cI 12 g817), (n0, kcI cI 10 en), (p0, kcI cI 120 ep), (s0, kcI cI 10 es), (h, oX0 m1 m2 m3 mc sc tx nr ra ru dy wa se none), (m1, kcI cI 50 f1), (m2, kcI cI 72 f2), (m3, kcJ cJ 30 f3)] H := hP
        have hD : va_D A [(d0, oX3 t0 b0 c0 n0 p0 s0 0 x818), (t0, kcJ cJ 4096 et), (b0, kcI cI 10 eb), (c0, kcI cI 12 g817), (n0, kcI cI 10 en), (p0, kcI cI 120 ep), (s0, kcI cI 10 es), (h, oX0 m1 m2 m3 mc sc tx nr ra ru dy wa se none), (m1, kcI cI 50 f1), (m2, kcI cI 72 f2), (m3, kcJ cJ 30 f3)] := hD
        obtain ⟨x820, ex820⟩ : ∃ y : Int32, y = y322 + 1 := ⟨_, rfl⟩
        refine lv_iinc (v := x820) (lv' := [(2, .int x820), (0, .ref d0), (1, .ref h)]) hx hb dX3_look_60 hl (k := 0) rfl (by rw [ex820]; rfl) (by decide) rfl (fun ls hl => ?_)
        have k821 : Rg x820 1 2147483647 := rg_add ex820 k800 (rg_lit (n := 1) (by decide)) (by decide)
        refine lv_goto (tgt := 12) hx hb dX3_look_63 (by decide) ?_
        exact ih325 (x820, x818, g817) _ _ _ (by show (2147483647 - (x820).toInt).toNat < (2147483647 - (y322).toInt).toNat; exact mu_up ex820 k800 k821 (by decide)) ⟨(hF1.trans (kIter_go (kC_eq rfl (kC_eq rfl (kif_f (xF_le c799) (kif_f (xF_le c802) (kLet_eq (k806).symm (kif_f (by decide) (kLet_eq (ke_st hg817) (kLet_eq (ti_add ex818 k804 (rg_lit (n := 1) (by decide)) (by decide) rfl rfl) (kLet_eq (ti_add ex820 k800 (rg_lit (n := 1) (by decide)) (by decide) rfl rfl) rfl))))))))))), (rg_w k821 (by decide)), (rg_w k819 (by decide)), hP.sub (ws' := [(d0, oX3 t0 b0 c0 n0 p0 s0 0 x818), (t0, kcJ cJ 4096 et), (b0, kcI cI 10 eb), (c0, kcI cI 12 g817), (n0, kcI cI 10 en), (p0, kcI cI 120 ep), (s0, kcI cI 10 es), (h, oX0 m1 m2 m3 mc sc tx nr ra ru dy wa se none), (m1, kcI cI 50 f1), (m2, kcI cI 72 f2), (m3, kcJ cJ 30 f3)]) [0, 1, 2, 3, 4, 5, 6, 7, 8, 9, 10] rfl, hD.sub (ws' := [(d0, oX3 t0 b0 c0 n0 p0 s0 0 x818), (t0, kcJ cJ 4096 et), (b0, kcI cI 10 eb), (c0, kcI cI 12 g817), (n0, kcI cI 10 en), (p0, kcI cI 120 ep), (s0, kcI cI 10 es), (h, oX0 m1 m2 m3 mc sc tx nr ra ru dy wa se none), (m1, kcI cI 50 f1), (m2, kcI cI 72 f2), (m3, kcJ cJ 30 f3)]) [0, 1, 2, 3, 4, 5, 6, 7, 8, 9, 10] (by decide) rfl, hS, lv_sub (l' := [(2, .int x820), (0, .ref d0), (1, .ref h)]) hl [0, 1, 2] rfl⟩

set_option maxHeartbeats 4000000 in
set_option maxRecDepth 100000 in
/-- Handing.lookAtMan (s) -/
theorem z_Hand_lookAtMan_s (l : Launch) (D : va_G) (cI cJ cB cC : ClassId) (d0 : Nat) (t0 : Nat) (b0 : Nat) (c0 : Nat) (n0 : Nat) (p0 : Nat) (s0 : Nat) (bc : Int32) (cc_ : Int32) (et : Nat → Int64) (eb : Nat → Int32) (ec : Nat → Int32) (en : Nat → Int32) (ep : Nat → Int32) (es : Nat → Int32) (h : Nat) (m1 : Nat) (m2 : Nat) (m3 : Nat) (mc : Int32) (sc : Int32) (tx : Int32) (nr : Int32) (ra : Int32) (ru : Int32) (dy : Int32) (wa : Int32) (se : Int32) (f1 : Nat → Int32) (f2 : Nat → Int32) (f3 : Nat → Int64) (l0 : Nat) (l1 : Nat) (l2 : Nat) (l3 : Nat) (l4 : Nat) (M1 : Nat) (M2 : Nat) (M3 : Nat) (y1_ : Nat → Int32) (y2_ : Nat → Int32) (y3_ : Nat → Int32) (y4_ : Nat → Int32) (a1 : Int32) (sz : Nat) (H_bc : Rg bc 0 9) (H_cc_ : Rg cc_ 0 12) : Met l yX3_lookAtMan kwX3_lookAtMan ({ frames := 5, cells := 0, slots := 0, locals := 113 } : Room) (kPre D (kT cI cJ cB cC) sz [(d0, oX3 t0 b0 c0 n0 p0 s0 bc cc_), (t0, kcJ cJ 4096 et), (b0, kcI cI 10 eb), (c0, kcI cI 12 ec), (n0, kcI cI 10 en), (p0, kcI cI 120 ep), (s0, kcI cI 10 es), (h, oX0 m1 m2 m3 mc sc tx nr ra ru dy wa se (some l0)), (m1, kcI cI 50 f1), (m2, kcI cI 72 f2), (m3, kcJ cJ 30 f3), (l0, oX4 l1 l2 l3 l4), (l1, kcI cI M1 y1_), (l2, kcI cI M2 y2_), (l3, kcI cI M3 y3_), (l4, kcI cI 28 y4_)] [.ref d0, .ref h, .int a1]) (va_Qv (fun (uu : (Nat → Int32) × (Nat → Int32) × (Nat → Int32)) => match uu with | (f0_, f1_, f2_) => F_z_Hand_lookAtMan_s (bc : Int32).toInt (cc_ : Int32).toInt (gT ec) (gT en) (gT ep) (sc : Int32).toInt (nr : Int32).toInt (wa : Int32).toInt (gT f1) (gT f2) f3 M1 M2 M3 (gT y1_) (gT y2_) (gT y3_) (gT y4_) (a1 : Int32).toInt = ((gT f0_), (gT f1_), (gT f2_))) (fun (uu : (Nat → Int32) × (Nat → Int32) × (Nat → Int32)) (t : State) => match uu with | (f0_, f1_, f2_) => kB D (kT cI cJ cB cC) (va_A [(d0, oX3 t0 b0 c0 n0 p0 s0 bc cc_), (t0, kcJ cJ 4096 et), (b0, kcI cI 10 eb), (c0, kcI cI 12 ec), (n0, kcI cI 10 en), (p0, kcI cI 120 ep), (s0, kcI cI 10 es), (h, oX0 m1 m2 m3 mc sc tx nr ra ru dy wa se (some l0)), (m1, kcI cI 50 f1), (m2, kcI cI 72 f2), (m3, kcJ cJ 30 f3), (l0, oX4 l1 l2 l3 l4), (l1, kcI cI M1 y1_), (l2, kcI cI M2 y2_), (l3, kcI cI M3 y3_), (l4, kcI cI 28 y4_)] sz) [(d0, oX3 t0 b0 c0 n0 p0 s0 bc cc_), (t0, kcJ cJ 4096 et), (b0, kcI cI 10 eb), (c0, kcI cI 12 ec), (n0, kcI cI 10 f0_), (p0, kcI cI 120 f1_), (s0, kcI cI 10 es), (h, oX0 m1 m2 m3 mc sc tx nr ra ru dy wa se (some l0)), (m1, kcI cI 50 f1), (m2, kcI cI 72 f2), (m3, kcJ cJ 30 f3), (l0, oX4 l1 l2 l3 l4), (l1, kcI cI M1 y1_), (l2, kcI cI M2 y2_), (l3, kcI cI M3 y3_), (l4, kcI cI 28 f2_)] t) (va_A [(d0, oX3 t0 b0 c0 n0 p0 s0 bc cc_), (t0, kcJ cJ 4096 et), (b0, kcI cI 10 eb), (c0, kcI cI 12 ec), (n0, kcI cI 10 en), (p0, kcI cI 120 ep), (s0, kcI cI 10 es), (h, oX0 m1 m2 m3 mc sc tx nr ra ru dy wa se (some l0)), (m1, kcI cI 50 f1), (m2, kcI cI 72 f2), (m3, kcJ cJ 30 f3), (l0, oX4 l1 l2 l3 l4), (l1, kcI cI M1 y1_), (l2, kcI cI M2 y2_), (l3, kcI cI M3 y3_), (l4, kcI cI 28 y4_)] sz)) 0 0 (va_A [(d0, oX3 t0 b0 c0 n0 p0 s0 bc cc_), (t0, kcJ cJ 4096 et), (b0, kcI cI 10 eb), (c0, kcI cI 12 ec), (n0, kcI cI 10 en), (p0, kcI cI 120 ep), (s0, kcI cI 10 es), (h, oX0 m1 m2 m3 mc sc tx nr ra ru dy wa se (some l0)), (m1, kcI cI 50 f1), (m2, kcI cI 72 f2), (m3, kcJ cJ 30 f3), (l0, oX4 l1 l2 l3 l4), (l1, kcI cI M1 y1_), (l2, kcI cI M2 y2_), (l3, kcI cI M3 y3_), (l4, kcI cI 28 y4_)] sz) := by
  refine Met.ofW (cc := cX3_lookAtMan) (maxL := 6) (ret := none) (by decide) rfl ?_
  intro p e s m args below meth c s₁ B hml hv
  obtain ⟨rfl, hsz, hN, hE, hP, hK, hD0⟩ := hv
  have hx := B.exec
  have hb := B.bytes
  have hr := B.returns
  have hts := fun (w : Cond) (h : w ∈ kG) => atoms_spec (ws := kwX3_lookAtMan) B.pre w (List.mem_cons_of_mem _ h)
  have hown : s.vm.findClass RX3 = some m.cls := findClass_of_methodNamed B.named
  subst hsz
  have hD := hD0.self (sz := s.heap.size)
  generalize hAe : va_A [(d0, oX3 t0 b0 c0 n0 p0 s0 bc cc_), (t0, kcJ cJ 4096 et), (b0, kcI cI 10 eb), (c0, kcI cI 12 ec), (n0, kcI cI 10 en), (p0, kcI cI 120 ep), (s0, kcI cI 10 es), (h, oX0 m1 m2 m3 mc sc tx nr ra ru dy wa se (some l0)), (m1, kcI cI 50 f1), (m2, kcI cI 72 f2), (m3, kcJ cJ 30 f3), (l0, oX4 l1 l2 l3 l4), (l1, kcI cI M1 y1_), (l2, kcI cI M2 y2_), (l3, kcI cI M3 y3_), (l4, kcI cI 28 y4_)] s.heap.size = A at hD hE ⊢
  have hA : ∀ q : Nat, s.heap.size ≤ q → A q := fun q h => by rw [← hAe]; exact Or.inr h
  have hl := lv_entry ([.ref d0, .ref h, .int a1]) (n := 6) (Nat.le_of_ble_eq_true rfl)
  rw [lg_entry_eq]
  generalize (lg_sl ([.ref d0, .ref h, .int a1]) ++ List.replicate (6 - (lg_sl ([.ref d0, .ref h, .int a1])).length) Slot.unset).toArray = ls at hl ⊢
  have hl : lv_has ls 6 [(0, .ref d0), (1, .ref h), (2, .int a1)] := hl
  obtain ⟨H, hH0⟩ : ∃ H, H = s.heap := ⟨_, rfl⟩
  have hS : va_S A s.heap H [] := by rw [hH0]; exact va_S.rf
  have hP : va_P D vwCl [(d0, oX3 t0 b0 c0 n0 p0 s0 bc cc_), (t0, kcJ cJ 4096 et), (b0, kcI cI 10 eb), (c0, kcI cI 12 ec), (n0, kcI cI 10 en), (p0, kcI cI 120 ep), (s0, kcI cI 10 es), (h, oX0 m1 m2 m3 mc sc tx nr ra ru dy wa se (some l0)), (m1, kcI cI 50 f1), (m2, kcI cI 72 f2), (m3, kcJ cJ 30 f3), (l0, oX4 l1 l2 l3 l4), (l1, kcI cI M1 y1_), (l2, kcI cI M2 y2_), (l3, kcI cI M3 y3_), (l4, kcI cI 28 y4_)] H := by rw [hH0]; exact hP
  refine kHeap hH0 ?_
  clear hH0
  refine lv_iconst (v := 0) hx hb dX3_lookAtMan_0 (by decide) ?_
  refine lv_istore_n (lv' := [(3, .int 0), (0, .ref d0), (1, .ref h), (2, .int a1)]) hx hb dX3_lookAtMan_1 rfl hl (by decide) rfl (fun ls hl => ?_)
  refine lv_iconst (v := 0) hx hb dX3_lookAtMan_2 (by decide) ?_
  refine lv_istore (lv' := [(4, .int 0), (3, .int 0), (0, .ref d0), (1, .ref h), (2, .int a1)]) hx hb dX3_lookAtMan_3 hl (by decide) rfl (fun ls hl => ?_)
  refine k_loop (hd := 5) (fun (u : Int32 × Int32 × (Nat → Int32) × (Nat → Int32)) => match u with | (y501, y502, g503, g504) => (12 - (y501).toInt).toNat) (fun (u : Int32 × Int32 × (Nat → Int32) × (Nat → Int32)) (H : Heap) (locs : List Loc) (ls : Array Slot) => match u with | (y501, y502, g503, g504) => (F_z_Hand_lookAtMan_s bc.toInt cc_.toInt (gT ec) (gT en) (gT ep) sc.toInt nr.toInt wa.toInt (gT f1) (gT f2) f3 M1 M2 M3 (gT y1_) (gT y2_) (gT y3_) (gT y4_) a1.toInt = F_z_Hand_lookAtMan_s_l1 bc.toInt cc_.toInt (gT ec) (gT en) sc.toInt nr.toInt wa.toInt (gT f1) (gT f2) f3 M1 M2 M3 (gT y1_) (gT y2_) (gT y3_) a1.toInt (y501.toInt, y502.toInt, (gT g503), (gT g504))) ∧ Rg y501 0 12 ∧ Rg y502 0 4095 ∧ va_P D vwCl [(d0, oX3 t0 b0 c0 n0 p0 s0 bc cc_), (t0, kcJ cJ 4096 et), (b0, kcI cI 10 eb), (c0, kcI cI 12 ec), (n0, kcI cI 10 en), (p0, kcI cI 120 g503), (s0, kcI cI 10 es), (h, oX0 m1 m2 m3 mc sc tx nr ra ru dy wa se (some l0)), (m1, kcI cI 50 f1), (m2, kcI cI 72 f2), (m3, kcJ cJ 30 f3), (l0, oX4 l1 l2 l3 l4), (l1, kcI cI M1 y1_), (l2, kcI cI M2 y2_), (l3, kcI cI M3 y3_), (l4, kcI cI 28 g504)] H ∧ va_D A [(d0, oX3 t0 b0 c0 n0 p0 s0 bc cc_), (t0, kcJ cJ 4096 et), (b0, kcI cI 10 eb), (c0, kcI cI 12 ec), (n0, kcI cI 10 en), (p0, kcI cI 120 g503), (s0, kcI cI 10 es), (h, oX0 m1 m2 m3 mc sc tx nr ra ru dy wa se (some l0)), (m1, kcI cI 50 f1), (m2, kcI cI 72 f2), (m3, kcJ cJ 30 f3), (l0, oX4 l1 l2 l3 l4), (l1, kcI cI M1 y1_), (l2, kcI cI M2 y2_), (l3, kcI cI M3 y3_), (l4, kcI cI 28 g504)] ∧ va_S A s.heap H locs ∧ lv_has ls 6 [(4, .int y501), (3, .int y502), (0, .ref d0), (1, .ref h), (2, .int a1)]) ((0 : Int32), (0 : Int32), ep, y4_) ⟨rfl, (rg_w (rg_lit (n := 0) (by decide)) (by decide)), (rg_w (rg_lit (n := 0) (by decide)) (by decide)), hP.sub (ws' := [(d0, oX3 t0 b0 c0 n0 p0 s0 bc cc_), (t0, kcJ cJ 4096 et), (b0, kcI cI 10 eb), (c0, kcI cI 12 ec), (n0, kcI cI 10 en), (p0, kcI cI 120 ep), (s0, kcI cI 10 es), (h, oX0 m1 m2 m3 mc sc tx nr ra ru dy wa se (some l0)), (m1, kcI cI 50 f1), (m2, kcI cI 72 f2), (m3, kcJ cJ 30 f3), (l0, oX4 l1 l2 l3 l4), (l1, kcI cI M1 y1_), (l2, kcI cI M2 y2_), (l3, kcI cI M3 y3_), (l4, kcI cI 28 y4_)]) [0, 1, 2, 3, 4, 5, 6, 7, 8, 9, 10, 11, 12, 13, 14, 15] rfl, hD.sub (ws' := [(d0, oX3 t0 b0 c0 n0 p0 s0 bc cc_), (t0, kcJ cJ 4096 et), (b0, kcI cI 10 eb), (c0, kcI cI 12 ec), (n0, kcI cI 10 en), (p0, kcI cI 120 ep), (s0, kcI cI 10 es), (h, oX0 m1 m2 m3 mc sc tx nr ra ru dy wa se (some l0)), (m1, kcI cI 50 f1), (m2, kcI cI 72 f2), (m3, kcJ cJ 30 f3), (l0, oX4 l1 l2 l3 l4), (l1, kcI cI M1 y1_), (l2, kcI cI M2 y2_), (l3, kcI cI M3 y3_), (l4, kcI cI 28 y4_)]) [0, 1, 2, 3, 4, 5, 6, 7, 8, 9, 10, 11, 12, 13, 14, 15] (by decide) rfl, hS, lv_sub (l' := [(4, .int 0), (3, .int 0), (0, .ref d0), (1, .ref h), (2, .int a1)]) hl [0, 1, 2, 3, 4] rfl⟩ (fun u H locs ls hI ih505 => ?_)
  clear hP hD hS hl
  obtain ⟨y501, y502, g503, g504⟩ := u
  obtain ⟨hF1, hy501, hy502, hP, hD, hS, hl⟩ := hI
  have hP : va_P D vwCl [(d0, oX3 t0 b0 c0 n0 p0 s0 bc cc_), (t0, kcJ cJ 4096 et), (b0, kcI cI 10 eb), (c0, kcI cI 12 ec), (n0, kcI cI 10 en), (p0, kcI cI 120 g503), (s0, kcI cI 10 es), (h, oX0 m1 m2 m3 mc sc tx nr ra ru dy wa se (some l0)), (m1, kcI cI 50 f1), (m2, kcI cI 72 f2), (m3, kcJ cJ 30 f3), (l0, oX4 l1 l2 l3 l4), (l1, kcI cI M1 y1_), (l2, kcI cI M2 y2_), (l3, kcI cI M3 y3_), (l4, kcI cI 28 g504)] H := hP
  have hD : va_D A [(d0, oX3 t0 b0 c0 n0 p0 s0 bc cc_), (t0, kcJ cJ 4096 et), (b0, kcI cI 10 eb), (c0, kcI cI 12 ec), (n0, kcI cI 10 en), (p0, kcI cI 120 g503), (s0, kcI cI 10 es), (h, oX0 m1 m2 m3 mc sc tx nr ra ru dy wa se (some l0)), (m1, kcI cI 50 f1), (m2, kcI cI 72 f2), (m3, kcJ cJ 30 f3), (l0, oX4 l1 l2 l3 l4), (l1, kcI cI M1 y1_), (l2, kcI cI M2 y2_), (l3, kcI cI M3 y3_), (l4, kcI cI 28 g504)] := hD
  have hl : lv_has ls 6 [(4, .int y501), (3, .int y502), (0, .ref d0), (1, .ref h), (2, .int a1)] := hl
  refine lv_iload hx hb dX3_lookAtMan_5 (lv_at hl 0 rfl) ?_
  refine lv_aload_n hx hb dX3_lookAtMan_7 rfl (lv_at hl 2 rfl) ?_
  refine va_get (D := D) (ci := 3) (v := .int cc_) (C := RX3) (T := TX3) (N := 8) hx hb hts iG_X3 hown hK hP 0 rfl rfl 7 (by decide) (hts _ w4_11) (fun _ h9 => h9) rfl dX3_lookAtMan_8 ?_
  refine lv_icmp_ge (tgt := 72) hx hb dX3_lookAtMan_11 (by decide) (fun c506 => ?_) (fun c506 => ?_)
  · skip
    refine lv_aload_n hx hb dX3_lookAtMan_72 rfl (lv_at hl 2 rfl) ?_
    refine va_get (D := D) (ci := 3) (v := .ref n0) (C := RX3) (T := TX3) (N := 8) hx hb hts iG_X3 hown hK hP 0 rfl rfl 3 (by decide) (hts _ w4_7) (fun _ h9 => h9) rfl dX3_lookAtMan_73 ?_
    refine lv_aload_n hx hb dX3_lookAtMan_76 rfl (lv_at hl 2 rfl) ?_
    refine va_get (D := D) (ci := 3) (v := .int bc) (C := RX3) (T := TX3) (N := 8) hx hb hts iG_X3 hown hK hP 0 rfl rfl 6 (by decide) (hts _ w4_10) (fun _ h9 => h9) rfl dX3_lookAtMan_77 ?_
    refine lv_iload_n hx hb dX3_lookAtMan_80 rfl (lv_at hl 1 rfl) ?_
    refine kcallv (wc := [(n0, kcI cI 10 en)]) (wr := [(d0, oX3 t0 b0 c0 n0 p0 s0 bc cc_), (t0, kcJ cJ 4096 et), (b0, kcI cI 10 eb), (c0, kcI cI 12 ec), (p0, kcI cI 120 g503), (s0, kcI cI 10 es), (h, oX0 m1 m2 m3 mc sc tx nr ra ru dy wa se (some l0)), (m1, kcI cI 50 f1), (m2, kcI cI 72 f2), (m3, kcJ cJ 30 f3), (l0, oX4 l1 l2 l3 l4), (l1, kcI cI M1 y1_), (l2, kcI cI M2 y2_), (l3, kcI cI M3 y3_), (l4, kcI cI 28 g504)]) hP hD hS hA [4] [0, 1, 2, 3, 5, 6, 7, 8, 9, 10, 11, 12, 13, 14, 15] rfl rfl (by decide) (by decide) (by decide) (fun hPc hDc hFc => va_runSN (As := [.ref n0, .int bc, .int y502]) (rest := []) ⟨hx, hb, hml, hown, hts⟩ (z_setAt l D cI cJ cB cC n0 10 en bc y502 H.size) ⟨va_cnB 3 hts gX3_lookAtMan_X10_setAt_n69 rfl rfl rfl (nM_27 hN) (hts _ w0_2) hdX10_setAt ⟨Nat.le_of_ble_eq_true rfl, Nat.le_of_ble_eq_true rfl⟩, hts _ w11_10, trivial⟩ ⟨kBlind, fun U hU hW => ⟨rfl, by rw [hU], hN.warm hW, hE.pass hS hFc hW hU, by rw [hU]; exact hPc, va_K.moved hW.alike hK, hDc⟩⟩ rfl rfl hl.1 rfl (lv_room (Nat.le_of_ble_eq_true rfl)) dX3_lookAtMan_81 ⟨Nat.le_of_ble_eq_true rfl, Nat.le_of_ble_eq_true rfl⟩) (fun u H locs hw hP hD hS => ?_)
    obtain ⟨g507, rfl⟩ : ∃ z, z = u := ⟨_, rfl⟩
    have hP : va_P D vwCl [(d0, oX3 t0 b0 c0 n0 p0 s0 bc cc_), (t0, kcJ cJ 4096 et), (b0, kcI cI 10 eb), (c0, kcI cI 12 ec), (p0, kcI cI 120 g503), (s0, kcI cI 10 es), (h, oX0 m1 m2 m3 mc sc tx nr ra ru dy wa se (some l0)), (m1, kcI cI 50 f1), (m2, kcI cI 72 f2), (m3, kcJ cJ 30 f3), (l0, oX4 l1 l2 l3 l4), (l1, kcI cI M1 y1_), (l2, kcI cI M2 y2_), (l3, kcI cI M3 y3_), (l4, kcI cI 28 g504), (n0, kcI cI 10 g507)] H := hP
    have hD : va_D A [(d0, oX3 t0 b0 c0 n0 p0 s0 bc cc_), (t0, kcJ cJ 4096 et), (b0, kcI cI 10 eb), (c0, kcI cI 12 ec), (p0, kcI cI 120 g503), (s0, kcI cI 10 es), (h, oX0 m1 m2 m3 mc sc tx nr ra ru dy wa se (some l0)), (m1, kcI cI 50 f1), (m2, kcI cI 72 f2), (m3, kcJ cJ 30 f3), (l0, oX4 l1 l2 l3 l4), (l1, kcI cI M1 y1_), (l2, kcI cI M2 y2_), (l3, kcI cI M3 y3_), (l4, kcI cI 28 g504), (n0, kcI cI 10 g507)] := hD
    have k508 := hw
    have hP9 := hP.sub (ws' := [(d0, oX3 t0 b0 c0 n0 p0 s0 bc cc_), (t0, kcJ cJ 4096 et), (b0, kcI cI 10 eb), (c0, kcI cI 12 ec), (n0, kcI cI 10 g507), (p0, kcI cI 120 g503), (s0, kcI cI 10 es), (h, oX0 m1 m2 m3 mc sc tx nr ra ru dy wa se (some l0)), (m1, kcI cI 50 f1), (m2, kcI cI 72 f2), (m3, kcJ cJ 30 f3), (l0, oX4 l1 l2 l3 l4), (l1, kcI cI M1 y1_), (l2, kcI cI M2 y2_), (l3, kcI cI M3 y3_), (l4, kcI cI 28 g504)]) [0, 1, 2, 3, 15, 4, 5, 6, 7, 8, 9, 10, 11, 12, 13, 14] rfl
    have hD9 := hD.sub (ws' := [(d0, oX3 t0 b0 c0 n0 p0 s0 bc cc_), (t0, kcJ cJ 4096 et), (b0, kcI cI 10 eb), (c0, kcI cI 12 ec), (n0, kcI cI 10 g507), (p0, kcI cI 120 g503), (s0, kcI cI 10 es), (h, oX0 m1 m2 m3 mc sc tx nr ra ru dy wa se (some l0)), (m1, kcI cI 50 f1), (m2, kcI cI 72 f2), (m3, kcJ cJ 30 f3), (l0, oX4 l1 l2 l3 l4), (l1, kcI cI M1 y1_), (l2, kcI cI M2 y2_), (l3, kcI cI M3 y3_), (l4, kcI cI 28 g504)]) [0, 1, 2, 3, 15, 4, 5, 6, 7, 8, 9, 10, 11, 12, 13, 14] (by decide) rfl
    exact W.vret hx hb hr (fun t ht hW => ⟨⟨(g507, g503, g504), rfl, (hF1.trans (kIter_out (kC_eq rfl (kC_eq rfl (kC_eq rfl (kif_t (leI c506) (kLet_eq (k508).symm rfl))))))), by rw [ht]; exact hP9, va_K.moved hW.alike hK, hD9⟩, hS.F ht⟩) hS.2.2 dX3_lookAtMan_84
  · skip
    have k509 : Rg y501 0 11 := rg_l1 (nleI c506) hy501 H_cc_ (by decide)
    have k510 : Rg cc_ 1 12 := rg_l2 (nleI c506) hy501 H_cc_ (by decide)
    refine lv_aload_n hx hb dX3_lookAtMan_14 rfl (lv_at hl 2 rfl) ?_
    refine va_get (D := D) (ci := 3) (v := .ref c0) (C := RX3) (T := TX3) (N := 8) hx hb hts iG_X3 hown hK hP 0 rfl rfl 2 (by decide) (hts _ w4_6) (fun _ h9 => h9) rfl dX3_lookAtMan_15 ?_
    refine lv_iload hx hb dX3_lookAtMan_18 (lv_at hl 0 rfl) ?_
    refine kpurei (wc := [(c0, kcI cI 12 ec)]) hP hD hS hA [3] rfl (by decide) (fun hPc hDc hFc => va_runSN (As := [.ref c0, .int y501]) (rest := []) ⟨hx, hb, hml, hown, hts⟩ (z_valueAt l D cI cJ cB cC c0 12 ec y501 H.size) ⟨va_cnB 2 hts gX3_lookAtMan_X10_valueAt_n57 rfl rfl rfl (nM_19 hN) (hts _ w0_2) hdX10_valueAt ⟨Nat.le_of_ble_eq_true rfl, Nat.le_of_ble_eq_true rfl⟩, hts _ w8_9, trivial⟩ ⟨kBlind, fun U hU hW => ⟨rfl, by rw [hU], hN.warm hW, hE.pass hS hFc hW hU, by rw [hU]; exact hPc, va_K.moved hW.alike hK, hDc⟩⟩ rfl rfl hl.1 rfl (lv_room (Nat.le_of_ble_eq_true rfl)) dX3_lookAtMan_20 ⟨Nat.le_of_ble_eq_true rfl, Nat.le_of_ble_eq_true rfl⟩) (fun r511 u H locs hw hP hS => ?_)
    have k512 := hw
    refine lv_istore (lv' := [(5, .int r511), (4, .int y501), (3, .int y502), (0, .ref d0), (1, .ref h), (2, .int a1)]) hx hb dX3_lookAtMan_23 hl (by decide) rfl (fun ls hl => ?_)
    refine lv_aload_n hx hb dX3_lookAtMan_25 rfl (lv_at hl 4 rfl) ?_
    refine lv_iload_n hx hb dX3_lookAtMan_26 rfl (lv_at hl 5 rfl) ?_
    refine lv_iload hx hb dX3_lookAtMan_27 (lv_at hl 0 rfl) ?_
    refine kcalli (wc := [(h, oX0 m1 m2 m3 mc sc tx nr ra ru dy wa se (some l0)), (m1, kcI cI 50 f1), (m2, kcI cI 72 f2), (m3, kcJ cJ 30 f3), (l0, oX4 l1 l2 l3 l4), (l1, kcI cI M1 y1_), (l2, kcI cI M2 y2_), (l3, kcI cI M3 y3_), (l4, kcI cI 28 g504)]) (wr := [(d0, oX3 t0 b0 c0 n0 p0 s0 bc cc_), (t0, kcJ cJ 4096 et), (b0, kcI cI 10 eb), (c0, kcI cI 12 ec), (n0, kcI cI 10 en), (p0, kcI cI 120 g503), (s0, kcI cI 10 es)]) hP hD hS hA [7, 8, 9, 10, 11, 12, 13, 14, 15] [0, 1, 2, 3, 4, 5, 6] rfl rfl (by decide) (by decide) (by decide) (fun hPc hDc hFc => va_runVN (C := RX0) (As := [.int a1, .int r511]) (rest := []) ⟨hx, hb, hml, hown, hts⟩ (z_Camp_forbids_s l D cI cJ cB cC h m1 m2 m3 mc sc tx nr ra ru dy wa se f1 f2 f3 l0 l1 l2 l3 l4 M1 M2 M3 y1_ y2_ y3_ g504 a1 r511 H.size) ⟨va_cnB 2 hts gX3_lookAtMan_X0_forbids_n61 rfl rfl rfl (nM_20 hN) (hts _ w0_19) hdX0_forbids ⟨Nat.le_of_ble_eq_true rfl, Nat.le_of_ble_eq_true rfl⟩, hts _ w28_23, hts _ w29_0⟩ ⟨kBlind, va_recv hK hPc (ci := 0) (q0 := 0) rfl rfl, fun U hU hW => ⟨rfl, by rw [hU], hN.warm hW, hE.pass hS hFc hW hU, by rw [hU]; exact hPc, va_K.moved hW.alike hK, hDc⟩⟩ rfl rfl hl.1 rfl (lv_room (Nat.le_of_ble_eq_true rfl)) dX3_lookAtMan_29 ⟨Nat.le_of_ble_eq_true rfl, Nat.le_of_ble_eq_true rfl⟩) (fun r513 u H locs hw hP hD hS => ?_)
    obtain ⟨g514, rfl⟩ : ∃ z, z = u := ⟨_, rfl⟩
    have hP : va_P D vwCl [(d0, oX3 t0 b0 c0 n0 p0 s0 bc cc_), (t0, kcJ cJ 4096 et), (b0, kcI cI 10 eb), (c0, kcI cI 12 ec), (n0, kcI cI 10 en), (p0, kcI cI 120 g503), (s0, kcI cI 10 es), (h, oX0 m1 m2 m3 mc sc tx nr ra ru dy wa se (some l0)), (m1, kcI cI 50 f1), (m2, kcI cI 72 f2), (m3, kcJ cJ 30 f3), (l0, oX4 l1 l2 l3 l4), (l1, kcI cI M1 y1_), (l2, kcI cI M2 y2_), (l3, kcI cI M3 y3_), (l4, kcI cI 28 g514)] H := hP
    have hD : va_D A [(d0, oX3 t0 b0 c0 n0 p0 s0 bc cc_), (t0, kcJ cJ 4096 et), (b0, kcI cI 10 eb), (c0, kcI cI 12 ec), (n0, kcI cI 10 en), (p0, kcI cI 120 g503), (s0, kcI cI 10 es), (h, oX0 m1 m2 m3 mc sc tx nr ra ru dy wa se (some l0)), (m1, kcI cI 50 f1), (m2, kcI cI 72 f2), (m3, kcJ cJ 30 f3), (l0, oX4 l1 l2 l3 l4), (l1, kcI cI M1 y1_), (l2, kcI cI M2 y2_), (l3, kcI cI M3 y3_), (l4, kcI cI 28 g514)] := hD
    obtain ⟨k515, hw⟩ := hw
    rcases hw with rfl | rfl
    · skip
      refine lv_if_ne (tgt := 66) hx hb dX3_lookAtMan_32 (by decide) (fun c531 => absurd (by decide) c531) (fun _ => ?_)
      refine lv_iload_n hx hb dX3_lookAtMan_35 rfl (lv_at hl 2 rfl) ?_
      refine lv_iconst (v := 1) hx hb dX3_lookAtMan_36 (by decide) ?_
      refine lv_iload hx hb dX3_lookAtMan_37 (lv_at hl 1 rfl) ?_
      refine lv_ishl hx hb dX3_lookAtMan_39 ?_
      refine lv_topi (fun x532 ex532 => ?_)
      have k533 : Rg x532 1 2048 := rg_shl1 11 ex532 k509 (by decide)
      refine lv_ior hx hb dX3_lookAtMan_40 ?_
      refine lv_topi (fun x534 ex534 => ?_)
      have k535 : Rg x534 0 4095 := rg_or 12 ex534 hy502 k533 (by decide)
      refine lv_istore_n (lv' := [(3, .int x534), (5, .int r511), (4, .int y501), (0, .ref d0), (1, .ref h), (2, .int a1)]) hx hb dX3_lookAtMan_41 rfl hl (by decide) rfl (fun ls hl => ?_)
      refine lv_aload_n hx hb dX3_lookAtMan_42 rfl (lv_at hl 3 rfl) ?_
      refine va_get (D := D) (ci := 3) (v := .ref p0) (C := RX3) (T := TX3) (N := 8) hx hb hts iG_X3 hown hK hP 0 rfl rfl 4 (by decide) (hts _ w4_8) (fun _ h9 => h9) rfl dX3_lookAtMan_43 ?_
      refine lv_aload_n hx hb dX3_lookAtMan_46 rfl (lv_at hl 3 rfl) ?_
      refine va_get (D := D) (ci := 3) (v := .int bc) (C := RX3) (T := TX3) (N := 8) hx hb hts iG_X3 hown hK hP 0 rfl rfl 6 (by decide) (hts _ w4_10) (fun _ h9 => h9) rfl dX3_lookAtMan_47 ?_
      refine lv_bipush (v := 12) hx hb dX3_lookAtMan_50 (by decide) ?_
      refine lv_imul hx hb dX3_lookAtMan_52 ?_
      refine lv_topi (fun x536 ex536 => ?_)
      have k537 : Rg x536 0 108 := rg_mul ex536 H_bc (rg_lit (n := 12) (by decide)) (by decide)
      refine lv_iload hx hb dX3_lookAtMan_53 (lv_at hl 2 rfl) ?_
      refine lv_iadd hx hb dX3_lookAtMan_55 ?_
      refine lv_topi (fun x538 ex538 => ?_)
      have k539 : Rg x538 0 119 := rg_add ex538 k537 k509 (by decide)
      refine lv_aload_n hx hb dX3_lookAtMan_56 rfl (lv_at hl 4 rfl) ?_
      refine lv_iload_n hx hb dX3_lookAtMan_57 rfl (lv_at hl 5 rfl) ?_
      refine lv_iload hx hb dX3_lookAtMan_58 (lv_at hl 1 rfl) ?_
      refine kcalli (wc := [(h, oX0 m1 m2 m3 mc sc tx nr ra ru dy wa se (some l0)), (m1, kcI cI 50 f1), (m2, kcI cI 72 f2), (m3, kcJ cJ 30 f3), (l0, oX4 l1 l2 l3 l4), (l1, kcI cI M1 y1_), (l2, kcI cI M2 y2_), (l3, kcI cI M3 y3_), (l4, kcI cI 28 g514)]) (wr := [(d0, oX3 t0 b0 c0 n0 p0 s0 bc cc_), (t0, kcJ cJ 4096 et), (b0, kcI cI 10 eb), (c0, kcI cI 12 ec), (n0, kcI cI 10 en), (p0, kcI cI 120 g503), (s0, kcI cI 10 es)]) hP hD hS hA [7, 8, 9, 10, 11, 12, 13, 14, 15] [0, 1, 2, 3, 4, 5, 6] rfl rfl (by decide) (by decide) (by decide) (fun hPc hDc hFc => va_runVN (C := RX0) (As := [.int a1, .int r511]) (rest := [.int x538, .ref p0]) ⟨hx, hb, hml, hown, hts⟩ (z_Camp_priceOf_s l D cI cJ cB cC h m1 m2 m3 mc sc tx nr ra ru dy wa se f1 f2 f3 l0 l1 l2 l3 l4 M1 M2 M3 y1_ y2_ y3_ g514 a1 r511 H.size) ⟨va_cnB 2 hts gX3_lookAtMan_X0_priceOf_n65 rfl rfl rfl (nM_25 hN) (hts _ w0_19) hdX0_priceOf ⟨Nat.le_of_ble_eq_true rfl, Nat.le_of_ble_eq_true rfl⟩, hts _ w31_6, hts _ w31_7⟩ ⟨kBlind, va_recv hK hPc (ci := 0) (q0 := 0) rfl rfl, fun U hU hW => ⟨rfl, by rw [hU], hN.warm hW, hE.pass hS hFc hW hU, by rw [hU]; exact hPc, va_K.moved hW.alike hK, hDc⟩⟩ rfl rfl hl.1 rfl (lv_room (Nat.le_of_ble_eq_true rfl)) dX3_lookAtMan_60 ⟨Nat.le_of_ble_eq_true rfl, Nat.le_of_ble_eq_true rfl⟩) (fun r540 u H locs hw hP hD hS => ?_)
      obtain ⟨g541, rfl⟩ : ∃ z, z = u := ⟨_, rfl⟩
      have hP : va_P D vwCl [(d0, oX3 t0 b0 c0 n0 p0 s0 bc cc_), (t0, kcJ cJ 4096 et), (b0, kcI cI 10 eb), (c0, kcI cI 12 ec), (n0, kcI cI 10 en), (p0, kcI cI 120 g503), (s0, kcI cI 10 es), (h, oX0 m1 m2 m3 mc sc tx nr ra ru dy wa se (some l0)), (m1, kcI cI 50 f1), (m2, kcI cI 72 f2), (m3, kcJ cJ 30 f3), (l0, oX4 l1 l2 l3 l4), (l1, kcI cI M1 y1_), (l2, kcI cI M2 y2_), (l3, kcI cI M3 y3_), (l4, kcI cI 28 g541)] H := hP
      have hD : va_D A [(d0, oX3 t0 b0 c0 n0 p0 s0 bc cc_), (t0, kcJ cJ 4096 et), (b0, kcI cI 10 eb), (c0, kcI cI 12 ec), (n0, kcI cI 10 en), (p0, kcI cI 120 g503), (s0, kcI cI 10 es), (h, oX0 m1 m2 m3 mc sc tx nr ra ru dy wa se (some l0)), (m1, kcI cI 50 f1), (m2, kcI cI 72 f2), (m3, kcJ cJ 30 f3), (l0, oX4 l1 l2 l3 l4), (l1, kcI cI M1 y1_), (l2, kcI cI M2 y2_), (l3, kcI cI M3 y3_), (l4, kcI cI 28 g541)] := hD
      have k542 := hw
      refine kcallv (wc := [(p0, kcI cI 120 g503)]) (wr := [(d0, oX3 t0 b0 c0 n0 p0 s0 bc cc_), (t0, kcJ cJ 4096 et), (b0, kcI cI 10 eb), (c0, kcI cI 12 ec), (n0, kcI cI 10 en), (s0, kcI cI 10 es), (h, oX0 m1 m2 m3 mc sc tx nr ra ru dy wa se (some l0)), (m1, kcI cI 50 f1), (m2, kcI cI 72 f2), (m3, kcJ cJ 30 f3), (l0, oX4 l1 l2 l3 l4), (l1, kcI cI M1 y1_), (l2, kcI cI M2 y2_), (l3, kcI cI M3 y3_), (l4, kcI cI 28 g541)]) hP hD hS hA [5] [0, 1, 2, 3, 4, 6, 7, 8, 9, 10, 11, 12, 13, 14, 15] rfl rfl (by decide) (by decide) (by decide) (fun hPc hDc hFc => va_runSN (As := [.ref p0, .int x538, .int r540]) (rest := []) ⟨hx, hb, hml, hown, hts⟩ (z_setAt l D cI cJ cB cC p0 120 g503 x538 r540 H.size) ⟨va_cnB 3 hts gX3_lookAtMan_X10_setAt_n69 rfl rfl rfl (nM_27 hN) (hts _ w0_2) hdX10_setAt ⟨Nat.le_of_ble_eq_true rfl, Nat.le_of_ble_eq_true rfl⟩, hts _ w11_10, trivial⟩ ⟨kBlind, fun U hU hW => ⟨rfl, by rw [hU], hN.warm hW, hE.pass hS hFc hW hU, by rw [hU]; exact hPc, va_K.moved hW.alike hK, hDc⟩⟩ rfl rfl hl.1 rfl (lv_room (Nat.le_of_ble_eq_true rfl)) dX3_lookAtMan_63 ⟨Nat.le_of_ble_eq_true rfl, Nat.le_of_ble_eq_true rfl⟩) (fun u H locs hw hP hD hS => ?_)
      obtain ⟨g543, rfl⟩ : ∃ z, z = u := ⟨_, rfl⟩
      have hP : va_P D vwCl [(d0, oX3 t0 b0 c0 n0 p0 s0 bc cc_), (t0, kcJ cJ 4096 et), (b0, kcI cI 10 eb), (c0, kcI cI 12 ec), (n0, kcI cI 10 en), (s0, kcI cI 10 es), (h, oX0 m1 m2 m3 mc sc tx nr ra ru dy wa se (some l0)), (m1, kcI cI 50 f1), (m2, kcI cI 72 f2), (m3, kcJ cJ 30 f3), (l0, oX4 l1 l2 l3 l4), (l1, kcI cI M1 y1_), (l2, kcI cI M2 y2_), (l3, kcI cI M3 y3_), (l4, kcI cI 28 g541), (p0, kcI cI 120 g543)] H := hP
      have hD : va_D A [(d0, oX3 t0 b0 c0 n0 p0 s0 bc cc_), (t0, kcJ cJ 4096 et), (b0, kcI cI 10 eb), (c0, kcI cI 12 ec), (n0, kcI cI 10 en), (s0, kcI cI 10 es), (h, oX0 m1 m2 m3 mc sc tx nr ra ru dy wa se (some l0)), (m1, kcI cI 50 f1), (m2, kcI cI 72 f2), (m3, kcJ cJ 30 f3), (l0, oX4 l1 l2 l3 l4), (l1, kcI cI M1 y1_), (l2, kcI cI M2 y2_), (l3, kcI cI M3 y3_), (l4, kcI cI 28 g541), (p0, kcI cI 120 g543)] := hD
      have k544 := hw
      obtain ⟨x545, ex545⟩ : ∃ y : Int32, y = y501 + 1 := ⟨_, rfl⟩
      refine lv_iinc (v := x545) (lv' := [(4, .int x545), (3, .int x534), (5, .int r511), (0, .ref d0), (1, .ref h), (2, .int a1)]) hx hb dX3_lookAtMan_66 hl (k := 2) rfl (by rw [ex545]; rfl) (by decide) rfl (fun ls hl => ?_)
      have k546 : Rg x545 1 12 := rg_add ex545 k509 (rg_lit (n := 1) (by decide)) (by decide)
      refine lv_goto (tgt := 5) hx hb dX3_lookAtMan_69 (by decide) ?_
      exact ih505 (x545, x534, g543, g541) _ _ _ (by show (12 - (x545).toInt).toNat < (12 - (y501).toInt).toNat; exact mu_up ex545 k509 k546 (by decide)) ⟨(hF1.trans (kIter_go (kC_eq rfl (kC_eq rfl (kC_eq rfl (kif_f (xF_le c506) (kLet_eq (k512).symm (kC_eq k515 (kif_t rfl (kLet_eq (ke_shl ex532) (kLet_eq (ke_or ex534) (kLet_eq (ti_mul ex536 H_bc (rg_lit (n := 12) (by decide)) (by decide) rfl rfl) (kLet_eq (ti_add ex538 k537 k509 (by decide) rfl rfl) (kC_eq k542 (kLet_eq (k544).symm (kLet_eq (ti_add ex545 k509 (rg_lit (n := 1) (by decide)) (by decide) rfl rfl) rfl)))))))))))))))), (rg_w k546 (by decide)), k535, hP.sub (ws' := [(d0, oX3 t0 b0 c0 n0 p0 s0 bc cc_), (t0, kcJ cJ 4096 et), (b0, kcI cI 10 eb), (c0, kcI cI 12 ec), (n0, kcI cI 10 en), (p0, kcI cI 120 g543), (s0, kcI cI 10 es), (h, oX0 m1 m2 m3 mc sc tx nr ra ru dy wa se (some l0)), (m1, kcI cI 50 f1), (m2, kcI cI 72 f2), (m3, kcJ cJ 30 f3), (l0, oX4 l1 l2 l3 l4), (l1, kcI cI M1 y1_), (l2, kcI cI M2 y2_), (l3, kcI cI M3 y3_), (l4, kcI cI 28 g541)]) [0, 1, 2, 3, 4, 15, 5, 6, 7, 8, 9, 10, 11, 12, 13, 14] rfl, hD.sub (ws' := [(d0, oX3 t0 b0 c0 n0 p0 s0 bc cc_), (t0, kcJ cJ 4096 et), (b0, kcI cI 10 eb), (c0, kcI cI 12 ec), (n0, kcI cI 10 en), (p0, kcI cI 120 g543), (s0, kcI cI 10 es), (h, oX0 m1 m2 m3 mc sc tx nr ra ru dy wa se (some l0)), (m1, kcI cI 50 f1), (m2, kcI cI 72 f2), (m3, kcJ cJ 30 f3), (l0, oX4 l1 l2 l3 l4), (l1, kcI cI M1 y1_), (l2, kcI cI M2 y2_), (l3, kcI cI M3 y3_), (l4, kcI cI 28 g541)]) [0, 1, 2, 3, 4, 15, 5, 6, 7, 8, 9, 10, 11, 12, 13, 14] (by decide) rfl, hS, lv_sub (l' := [(4, .int x545), (3, .int x534), (0, .ref d0), (1, .ref h), (2, .int a1)]) hl [0, 1, 3, 4, 5] rfl⟩
    · skip
      refine lv_if_ne (tgt := 66) hx hb dX3_lookAtMan_32 (by decide) (fun _ => ?_) (fun c548 => absurd c548 (by decide))
      obtain ⟨x549, ex549⟩ : ∃ y : Int32, y = y501 + 1 := ⟨_, rfl⟩
      refine lv_iinc (v := x549) (lv' := [(4, .int x549), (5, .int r511), (3, .int y502), (0, .ref d0), (1, .ref h), (2, .int a1)]) hx hb dX3_lookAtMan_66 hl (k := 1) rfl (by rw [ex549]; rfl) (by decide) rfl (fun ls hl => ?_)
      have k550 : Rg x549 1 12 := rg_add ex549 k509 (rg_lit (n := 1) (by decide)) (by decide)
      refine lv_goto (tgt := 5) hx hb dX3_lookAtMan_69 (by decide) ?_
      exact ih505 (x549, y502, g503, g514) _ _ _ (by show (12 - (x549).toInt).toNat < (12 - (y501).toInt).toNat; exact mu_up ex549 k509 k550 (by decide)) ⟨(hF1.trans (kIter_go (kC_eq rfl (kC_eq rfl (kC_eq rfl (kif_f (xF_le c506) (kLet_eq (k512).symm (kC_eq k515 (kif_f (by decide) (kLet_eq (ti_add ex549 k509 (rg_lit (n := 1) (by decide)) (by decide) rfl rfl) rfl)))))))))), (rg_w k550 (by decide)), hy502, hP.sub (ws' := [(d0, oX3 t0 b0 c0 n0 p0 s0 bc cc_), (t0, kcJ cJ 4096 et), (b0, kcI cI 10 eb), (c0, kcI cI 12 ec), (n0, kcI cI 10 en), (p0, kcI cI 120 g503), (s0, kcI cI 10 es), (h, oX0 m1 m2 m3 mc sc tx nr ra ru dy wa se (some l0)), (m1, kcI cI 50 f1), (m2, kcI cI 72 f2), (m3, kcJ cJ 30 f3), (l0, oX4 l1 l2 l3 l4), (l1, kcI cI M1 y1_), (l2, kcI cI M2 y2_), (l3, kcI cI M3 y3_), (l4, kcI cI 28 g514)]) [0, 1, 2, 3, 4, 5, 6, 7, 8, 9, 10, 11, 12, 13, 14, 15] rfl, hD.sub (ws' := [(d0, oX3 t0 b0 c0 n0 p0 s0 bc cc_), (t0, kcJ cJ 4096 et), (b0, kcI cI 10 eb), (c0, kcI cI 12 ec), (n0, kcI cI 10 en), (p0, kcI cI 120 g503), (s0, kcI cI 10 es), (h, oX0 m1 m2 m3 mc sc tx nr ra ru dy wa se (some l0)), (m1, kcI cI 50 f1), (m2, kcI cI 72 f2), (m3, kcJ cJ 30 f3), (l0, oX4 l1 l2 l3 l4), (l1, kcI cI M1 y1_), (l2, kcI cI M2 y2_), (l3, kcI cI M3 y3_), (l4, kcI cI 28 g514)]) [0, 1, 2, 3, 4, 5, 6, 7, 8, 9, 10, 11, 12, 13, 14, 15] (by decide) rfl, hS, lv_sub (l' := [(4, .int x549), (3, .int y502), (0, .ref d0), (1, .ref h), (2, .int a1)]) hl [0, 2, 3, 4, 5] rfl⟩

