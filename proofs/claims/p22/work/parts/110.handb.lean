def kwX3_firstBest : List Cond := .code yX3_firstBest cX3_firstBest 6 (some .int) :: kG
theorem hdX3_firstBest : yX3_firstBest.cls ≠ "java/lang/invoke/MethodHandle" ∧ yX3_firstBest.cls ≠ "java/lang/invoke/VarHandle" ∧ (parseMethodDescriptor yX3_firstBest.desc).map (fun d => d.parameters.length) = some 3 := by decide +kernel
theorem gX3_firstBest_X10_valueAt_n57 : GoodIn kG (kwX10_valueAt) := gK w8_10 gGG
theorem gX3_firstBest_X3_priceAt : GoodIn kG (wsV RX3 93 RX3 yX3_priceAt kwX3_priceAt) := gK w41_17 (gK w41_18 (gK w41_19 (gK w1_13 (gK w41_20 gGG))))
theorem gX3_firstBest_X3_valueOf : GoodIn kG (wsV RX3 84 RX3 yX3_valueOf kwX3_valueOf) := gK w39_18 (gK w39_19 (gK w39_20 (gK w1_13 (gK w39_21 gGG))))
theorem dX3_firstBest_0 : decode cX3_firstBest 0 = .ok (.aload_n 0, 1) := by decide +kernel
theorem dX3_firstBest_1 : decode cX3_firstBest 1 = .ok (.getfield 22, 3) := by decide +kernel
theorem dX3_firstBest_4 : decode cX3_firstBest 4 = .ok (.iload_n 1, 1) := by decide +kernel
theorem dX3_firstBest_5 : decode cX3_firstBest 5 = .ok (.invokestatic 57, 3) := by decide +kernel
theorem dX3_firstBest_8 : decode cX3_firstBest 8 = .ok (.iload_n 2, 1) := by decide +kernel
theorem dX3_firstBest_9 : decode cX3_firstBest 9 = .ok (.iconst (-1), 1) := by decide +kernel
theorem dX3_firstBest_10 : decode cX3_firstBest 10 = .ok (.ixor, 1) := by decide +kernel
theorem dX3_firstBest_11 : decode cX3_firstBest 11 = .ok (.iand, 1) := by decide +kernel
theorem dX3_firstBest_12 : decode cX3_firstBest 12 = .ok (.istore 4, 2) := by decide +kernel
theorem dX3_firstBest_14 : decode cX3_firstBest 14 = .ok (.iconst 0, 1) := by decide +kernel
theorem dX3_firstBest_15 : decode cX3_firstBest 15 = .ok (.istore 5, 2) := by decide +kernel
theorem dX3_firstBest_17 : decode cX3_firstBest 17 = .ok (.iload 5, 2) := by decide +kernel
theorem dX3_firstBest_19 : decode cX3_firstBest 19 = .ok (.aload_n 0, 1) := by decide +kernel
theorem dX3_firstBest_20 : decode cX3_firstBest 20 = .ok (.getfield 35, 3) := by decide +kernel
theorem dX3_firstBest_23 : decode cX3_firstBest 23 = .ok (.if_icmp .ge 50, 3) := by decide +kernel
theorem dX3_firstBest_26 : decode cX3_firstBest 26 = .ok (.iload 4, 2) := by decide +kernel
theorem dX3_firstBest_28 : decode cX3_firstBest 28 = .ok (.iload 5, 2) := by decide +kernel
theorem dX3_firstBest_30 : decode cX3_firstBest 30 = .ok (.ishr, 1) := by decide +kernel
theorem dX3_firstBest_31 : decode cX3_firstBest 31 = .ok (.iconst 1, 1) := by decide +kernel
theorem dX3_firstBest_32 : decode cX3_firstBest 32 = .ok (.iand, 1) := by decide +kernel
theorem dX3_firstBest_33 : decode cX3_firstBest 33 = .ok (.ifCond .eq 34, 3) := by decide +kernel
theorem dX3_firstBest_36 : decode cX3_firstBest 36 = .ok (.aload_n 0, 1) := by decide +kernel
theorem dX3_firstBest_37 : decode cX3_firstBest 37 = .ok (.iload_n 2, 1) := by decide +kernel
theorem dX3_firstBest_38 : decode cX3_firstBest 38 = .ok (.iconst 1, 1) := by decide +kernel
theorem dX3_firstBest_39 : decode cX3_firstBest 39 = .ok (.iload 5, 2) := by decide +kernel
theorem dX3_firstBest_41 : decode cX3_firstBest 41 = .ok (.ishl, 1) := by decide +kernel
theorem dX3_firstBest_42 : decode cX3_firstBest 42 = .ok (.ior, 1) := by decide +kernel
theorem dX3_firstBest_43 : decode cX3_firstBest 43 = .ok (.invokevirtual 84, 3) := by decide +kernel
theorem dX3_firstBest_46 : decode cX3_firstBest 46 = .ok (.aload_n 0, 1) := by decide +kernel
theorem dX3_firstBest_47 : decode cX3_firstBest 47 = .ok (.iload_n 1, 1) := by decide +kernel
theorem dX3_firstBest_48 : decode cX3_firstBest 48 = .ok (.iload 5, 2) := by decide +kernel
theorem dX3_firstBest_50 : decode cX3_firstBest 50 = .ok (.iload_n 3, 1) := by decide +kernel
theorem dX3_firstBest_51 : decode cX3_firstBest 51 = .ok (.invokevirtual 93, 3) := by decide +kernel
theorem dX3_firstBest_54 : decode cX3_firstBest 54 = .ok (.ladd, 1) := by decide +kernel
theorem dX3_firstBest_55 : decode cX3_firstBest 55 = .ok (.aload_n 0, 1) := by decide +kernel
theorem dX3_firstBest_56 : decode cX3_firstBest 56 = .ok (.iload_n 2, 1) := by decide +kernel
theorem dX3_firstBest_57 : decode cX3_firstBest 57 = .ok (.invokevirtual 84, 3) := by decide +kernel
theorem dX3_firstBest_60 : decode cX3_firstBest 60 = .ok (.lcmp, 1) := by decide +kernel
theorem dX3_firstBest_61 : decode cX3_firstBest 61 = .ok (.ifCond .ne 6, 3) := by decide +kernel
theorem dX3_firstBest_64 : decode cX3_firstBest 64 = .ok (.iload 5, 2) := by decide +kernel
theorem dX3_firstBest_66 : decode cX3_firstBest 66 = .ok (.ireturn, 1) := by decide +kernel
theorem dX3_firstBest_67 : decode cX3_firstBest 67 = .ok (.iinc 5 1, 3) := by decide +kernel
theorem dX3_firstBest_70 : decode cX3_firstBest 70 = .ok (.goto (-53), 3) := by decide +kernel
theorem dX3_firstBest_73 : decode cX3_firstBest 73 = .ok (.iconst (-1), 1) := by decide +kernel
theorem dX3_firstBest_74 : decode cX3_firstBest 74 = .ok (.ireturn, 1) := by decide +kernel
set_option maxHeartbeats 4000000 in
set_option maxRecDepth 100000 in
/-- Handing.firstBest -/
theorem z_Hand_firstBest (l : Launch) (D : va_G) (cI cJ cB cC : ClassId) (d0 : Nat) (t0 : Nat) (b0 : Nat) (c0 : Nat) (n0 : Nat) (p0 : Nat) (s0 : Nat) (bc : Int32) (cc_ : Int32) (et : Nat → Int64) (eb : Nat → Int32) (ec : Nat → Int32) (en : Nat → Int32) (ep : Nat → Int32) (es : Nat → Int32) (a1 : Int32) (b1 : Int32) (c1 : Int32) (sz : Nat) (H_c1 : Rg c1 0 1) (H_bc : Rg bc 0 10) (H_cc_ : Rg cc_ 0 12) : Met l yX3_firstBest kwX3_firstBest ({ frames := 2, cells := 0, slots := 0, locals := 44 } : Room) (kPre D (kT cI cJ cB cC) sz [(d0, oX3 t0 b0 c0 n0 p0 s0 bc cc_), (t0, kcJ cJ 4096 et), (b0, kcI cI 10 eb), (c0, kcI cI 12 ec), (n0, kcI cI 10 en), (p0, kcI cI 120 ep), (s0, kcI cI 10 es)] [.ref d0, .int a1, .int b1, .int c1]) (va_Qi (fun (r : Int32) (_ : Unit) => Rg r (-1) 11 ∧ F_z_Hand_firstBest (cc_ : Int32).toInt et (gT en) (gT ep) (a1 : Int32).toInt (b1 : Int32).toInt (c1 : Int32).toInt = ((r : Int32).toInt)) (fun (_ : Unit) (t : State) => kB D (kT cI cJ cB cC) (va_A [(d0, oX3 t0 b0 c0 n0 p0 s0 bc cc_), (t0, kcJ cJ 4096 et), (b0, kcI cI 10 eb), (c0, kcI cI 12 ec), (n0, kcI cI 10 en), (p0, kcI cI 120 ep), (s0, kcI cI 10 es)] sz) [(d0, oX3 t0 b0 c0 n0 p0 s0 bc cc_), (t0, kcJ cJ 4096 et), (b0, kcI cI 10 eb), (c0, kcI cI 12 ec), (n0, kcI cI 10 en), (p0, kcI cI 120 ep), (s0, kcI cI 10 es)] t) (va_A [(d0, oX3 t0 b0 c0 n0 p0 s0 bc cc_), (t0, kcJ cJ 4096 et), (b0, kcI cI 10 eb), (c0, kcI cI 12 ec), (n0, kcI cI 10 en), (p0, kcI cI 120 ep), (s0, kcI cI 10 es)] sz)) 0 0 (va_A [(d0, oX3 t0 b0 c0 n0 p0 s0 bc cc_), (t0, kcJ cJ 4096 et), (b0, kcI cI 10 eb), (c0, kcI cI 12 ec), (n0, kcI cI 10 en), (p0, kcI cI 120 ep), (s0, kcI cI 10 es)] sz) := by
  refine Met.ofW (cc := cX3_firstBest) (maxL := 6) (ret := (some .int)) (by decide) rfl ?_
  intro p e s m args below meth c s₁ B hml hv
  obtain ⟨rfl, hsz, hN, hE, hP, hK, hD0⟩ := hv
  have hx := B.exec
  have hb := B.bytes
  have hr := B.returns
  have hts := fun (w : Cond) (h : w ∈ kG) => atoms_spec (ws := kwX3_firstBest) B.pre w (List.mem_cons_of_mem _ h)
  have hown : s.vm.findClass RX3 = some m.cls := findClass_of_methodNamed B.named
  subst hsz
  have hD := hD0.self (sz := s.heap.size)
  generalize hAe : va_A [(d0, oX3 t0 b0 c0 n0 p0 s0 bc cc_), (t0, kcJ cJ 4096 et), (b0, kcI cI 10 eb), (c0, kcI cI 12 ec), (n0, kcI cI 10 en), (p0, kcI cI 120 ep), (s0, kcI cI 10 es)] s.heap.size = A at hD hE ⊢
  have hA : ∀ q : Nat, s.heap.size ≤ q → A q := fun q h => by rw [← hAe]; exact Or.inr h
  have hl := lv_entry ([.ref d0, .int a1, .int b1, .int c1]) (n := 6) (Nat.le_of_ble_eq_true rfl)
  rw [lg_entry_eq]
  generalize (lg_sl ([.ref d0, .int a1, .int b1, .int c1]) ++ List.replicate (6 - (lg_sl ([.ref d0, .int a1, .int b1, .int c1])).length) Slot.unset).toArray = ls at hl ⊢
  have hl : lv_has ls 6 [(0, .ref d0), (1, .int a1), (2, .int b1), (3, .int c1)] := hl
  obtain ⟨H, hH0⟩ : ∃ H, H = s.heap := ⟨_, rfl⟩
  have hS : va_S A s.heap H [] := by rw [hH0]; exact va_S.rf
  have hP : va_P D vwCl [(d0, oX3 t0 b0 c0 n0 p0 s0 bc cc_), (t0, kcJ cJ 4096 et), (b0, kcI cI 10 eb), (c0, kcI cI 12 ec), (n0, kcI cI 10 en), (p0, kcI cI 120 ep), (s0, kcI cI 10 es)] H := by rw [hH0]; exact hP
  refine kHeap hH0 ?_
  clear hH0
  refine lv_aload_n hx hb dX3_firstBest_0 rfl (lv_at hl 0 rfl) ?_
  refine va_get (D := D) (ci := 3) (v := .ref n0) (C := RX3) (T := TX3) (N := 8) hx hb hts iG_X3 hown hK hP 0 rfl rfl 3 (by decide) (hts _ w4_7) (fun _ h9 => h9) rfl dX3_firstBest_1 ?_
  refine lv_iload_n hx hb dX3_firstBest_4 rfl (lv_at hl 1 rfl) ?_
  refine kpurei (wc := [(n0, kcI cI 10 en)]) hP hD hS hA [4] rfl (by decide) (fun hPc hDc hFc => va_runSN (As := [.ref n0, .int a1]) (rest := []) ⟨hx, hb, hml, hown, hts⟩ (z_valueAt l D cI cJ cB cC n0 10 en a1 H.size) ⟨va_cnB 2 hts gX3_firstBest_X10_valueAt_n57 rfl rfl rfl (nM_19 hN) (hts _ w0_2) hdX10_valueAt ⟨Nat.le_of_ble_eq_true rfl, Nat.le_of_ble_eq_true rfl⟩, hts _ w8_9, trivial⟩ ⟨kBlind, fun U hU hW => ⟨rfl, by rw [hU], hN.warm hW, hE.pass hS hFc hW hU, by rw [hU]; exact hPc, va_K.moved hW.alike hK, hDc⟩⟩ rfl rfl hl.1 rfl (lv_room (Nat.le_of_ble_eq_true rfl)) dX3_firstBest_5 ⟨Nat.le_of_ble_eq_true rfl, Nat.le_of_ble_eq_true rfl⟩) (fun r1 u H locs hw hP hS => ?_)
  have k2 := hw
  refine lv_iload_n hx hb dX3_firstBest_8 rfl (lv_at hl 2 rfl) ?_
  refine lv_iconst (v := (-1)) hx hb dX3_firstBest_9 (by decide) ?_
  refine lv_ixor hx hb dX3_firstBest_10 ?_
  refine lv_topi (fun x3 ex3 => ?_)
  refine lv_iand hx hb dX3_firstBest_11 ?_
  refine lv_topi (fun x4 ex4 => ?_)
  refine lv_istore (lv' := [(4, .int x4), (0, .ref d0), (1, .int a1), (2, .int b1), (3, .int c1)]) hx hb dX3_firstBest_12 hl (by decide) rfl (fun ls hl => ?_)
  refine lv_iconst (v := 0) hx hb dX3_firstBest_14 (by decide) ?_
  refine lv_istore (lv' := [(5, .int 0), (4, .int x4), (0, .ref d0), (1, .int a1), (2, .int b1), (3, .int c1)]) hx hb dX3_firstBest_15 hl (by decide) rfl (fun ls hl => ?_)
  refine k_loop (hd := 17) (fun (y416 : Int32) => (12 - (y416).toInt).toNat) (fun (y416 : Int32) (H : Heap) (locs : List Loc) (ls : Array Slot) => (F_z_Hand_firstBest cc_.toInt et (gT en) (gT ep) a1.toInt b1.toInt c1.toInt = F_z_Hand_firstBest_l1 cc_.toInt et (gT ep) a1.toInt b1.toInt c1.toInt x4.toInt (y416.toInt)) ∧ Rg y416 0 12 ∧ va_P D vwCl [(d0, oX3 t0 b0 c0 n0 p0 s0 bc cc_), (t0, kcJ cJ 4096 et), (b0, kcI cI 10 eb), (c0, kcI cI 12 ec), (n0, kcI cI 10 en), (p0, kcI cI 120 ep), (s0, kcI cI 10 es)] H ∧ va_D A [(d0, oX3 t0 b0 c0 n0 p0 s0 bc cc_), (t0, kcJ cJ 4096 et), (b0, kcI cI 10 eb), (c0, kcI cI 12 ec), (n0, kcI cI 10 en), (p0, kcI cI 120 ep), (s0, kcI cI 10 es)] ∧ va_S A s.heap H locs ∧ lv_has ls 6 [(5, .int y416), (4, .int x4), (0, .ref d0), (1, .int a1), (2, .int b1), (3, .int c1)]) ((0 : Int32)) ⟨(kLet_eq (k2).symm (kLet_eq (ke_xor ex3) (kLet_eq (ke_and ex4) rfl))), (rg_w (rg_lit (n := 0) (by decide)) (by decide)), hP.sub (ws' := [(d0, oX3 t0 b0 c0 n0 p0 s0 bc cc_), (t0, kcJ cJ 4096 et), (b0, kcI cI 10 eb), (c0, kcI cI 12 ec), (n0, kcI cI 10 en), (p0, kcI cI 120 ep), (s0, kcI cI 10 es)]) [0, 1, 2, 3, 4, 5, 6] rfl, hD.sub (ws' := [(d0, oX3 t0 b0 c0 n0 p0 s0 bc cc_), (t0, kcJ cJ 4096 et), (b0, kcI cI 10 eb), (c0, kcI cI 12 ec), (n0, kcI cI 10 en), (p0, kcI cI 120 ep), (s0, kcI cI 10 es)]) [0, 1, 2, 3, 4, 5, 6] (by decide) rfl, hS, lv_sub (l' := [(5, .int 0), (4, .int x4), (0, .ref d0), (1, .int a1), (2, .int b1), (3, .int c1)]) hl [0, 1, 2, 3, 4, 5] rfl⟩ (fun u H locs ls hI ih417 => ?_)
  clear hP hD hS hl
  obtain ⟨y416, rfl⟩ : ∃ z, z = u := ⟨_, rfl⟩
  obtain ⟨hF1, hy416, hP, hD, hS, hl⟩ := hI
  have hP : va_P D vwCl [(d0, oX3 t0 b0 c0 n0 p0 s0 bc cc_), (t0, kcJ cJ 4096 et), (b0, kcI cI 10 eb), (c0, kcI cI 12 ec), (n0, kcI cI 10 en), (p0, kcI cI 120 ep), (s0, kcI cI 10 es)] H := hP
  have hD : va_D A [(d0, oX3 t0 b0 c0 n0 p0 s0 bc cc_), (t0, kcJ cJ 4096 et), (b0, kcI cI 10 eb), (c0, kcI cI 12 ec), (n0, kcI cI 10 en), (p0, kcI cI 120 ep), (s0, kcI cI 10 es)] := hD
  have hl : lv_has ls 6 [(5, .int y416), (4, .int x4), (0, .ref d0), (1, .int a1), (2, .int b1), (3, .int c1)] := hl
  refine lv_iload hx hb dX3_firstBest_17 (lv_at hl 0 rfl) ?_
  refine lv_aload_n hx hb dX3_firstBest_19 rfl (lv_at hl 2 rfl) ?_
  refine va_get (D := D) (ci := 3) (v := .int cc_) (C := RX3) (T := TX3) (N := 8) hx hb hts iG_X3 hown hK hP 0 rfl rfl 7 (by decide) (hts _ w4_11) (fun _ h9 => h9) rfl dX3_firstBest_20 ?_
  refine lv_icmp_ge (tgt := 73) hx hb dX3_firstBest_23 (by decide) (fun c418 => ?_) (fun c418 => ?_)
  · skip
    refine lv_iconst (v := (-1)) hx hb dX3_firstBest_73 (by decide) ?_
    have hP9 := hP.sub (ws' := [(d0, oX3 t0 b0 c0 n0 p0 s0 bc cc_), (t0, kcJ cJ 4096 et), (b0, kcI cI 10 eb), (c0, kcI cI 12 ec), (n0, kcI cI 10 en), (p0, kcI cI 120 ep), (s0, kcI cI 10 es)]) [0, 1, 2, 3, 4, 5, 6] rfl
    have hD9 := hD.sub (ws' := [(d0, oX3 t0 b0 c0 n0 p0 s0 bc cc_), (t0, kcJ cJ 4096 et), (b0, kcI cI 10 eb), (c0, kcI cI 12 ec), (n0, kcI cI 10 en), (p0, kcI cI 120 ep), (s0, kcI cI 10 es)]) [0, 1, 2, 3, 4, 5, 6] (by decide) rfl
    exact W.iret (v := (-1)) hx hb hr (fun t ht hW => ⟨⟨(-1), (), rfl, ⟨(rg_w (rg_lit (n := -1) (by decide)) (by decide)), (hF1.trans (kIter_out (kif_t (leI c418) rfl)))⟩, by rw [ht]; exact hP9, va_K.moved hW.alike hK, hD9⟩, hS.F ht⟩) hS.2.2 dX3_firstBest_74
  · skip
    have k419 : Rg y416 0 11 := rg_l1 (nleI c418) hy416 H_cc_ (by decide)
    have k420 : Rg cc_ 1 12 := rg_l2 (nleI c418) hy416 H_cc_ (by decide)
    refine lv_iload hx hb dX3_firstBest_26 (lv_at hl 1 rfl) ?_
    refine lv_iload hx hb dX3_firstBest_28 (lv_at hl 0 rfl) ?_
    refine lv_ishr hx hb dX3_firstBest_30 ?_
    refine lv_topi (fun x421 ex421 => ?_)
    refine lv_iconst (v := 1) hx hb dX3_firstBest_31 (by decide) ?_
    refine lv_iand hx hb dX3_firstBest_32 ?_
    refine lv_topi (fun x422 ex422 => ?_)
    have k423 : Rg x422 0 1 := rg_andr ex422 (rg_lit (n := 1) (by decide)) (by decide)
    refine k_join (hd := 67) (cells2 := 0) (slots2 := 0) (fun (_ : Unit) => []) (fun (_ : Unit) (H : Heap) (locs : List Loc) (ls : Array Slot) => (F_z_Hand_firstBest_l1_s cc_.toInt et (gT ep) a1.toInt b1.toInt c1.toInt x4.toInt (y416.toInt) = F_z_Hand_firstBest_j2 y416.toInt) ∧ va_P D vwCl [(d0, oX3 t0 b0 c0 n0 p0 s0 bc cc_), (t0, kcJ cJ 4096 et), (b0, kcI cI 10 eb), (c0, kcI cI 12 ec), (n0, kcI cI 10 en), (p0, kcI cI 120 ep), (s0, kcI cI 10 es)] H ∧ va_D A [(d0, oX3 t0 b0 c0 n0 p0 s0 bc cc_), (t0, kcJ cJ 4096 et), (b0, kcI cI 10 eb), (c0, kcI cI 12 ec), (n0, kcI cI 10 en), (p0, kcI cI 120 ep), (s0, kcI cI 10 es)] ∧ va_S A s.heap H locs ∧ lv_has ls 6 [(5, .int y416), (4, .int x4), (0, .ref d0), (1, .int a1), (2, .int b1), (3, .int c1)]) (fun u H locs ls hI => ?_) (fun hJ67 => ?_)
    · skip
      clear hP hD hS hl
      obtain ⟨hF2, hP, hD, hS, hl⟩ := hI
      have hP : va_P D vwCl [(d0, oX3 t0 b0 c0 n0 p0 s0 bc cc_), (t0, kcJ cJ 4096 et), (b0, kcI cI 10 eb), (c0, kcI cI 12 ec), (n0, kcI cI 10 en), (p0, kcI cI 120 ep), (s0, kcI cI 10 es)] H := hP
      have hD : va_D A [(d0, oX3 t0 b0 c0 n0 p0 s0 bc cc_), (t0, kcJ cJ 4096 et), (b0, kcI cI 10 eb), (c0, kcI cI 12 ec), (n0, kcI cI 10 en), (p0, kcI cI 120 ep), (s0, kcI cI 10 es)] := hD
      have hl : lv_has ls 6 [(5, .int y416), (4, .int x4), (0, .ref d0), (1, .int a1), (2, .int b1), (3, .int c1)] := hl
      obtain ⟨x441, ex441⟩ : ∃ y : Int32, y = y416 + 1 := ⟨_, rfl⟩
      refine lv_iinc (v := x441) (lv' := [(5, .int x441), (4, .int x4), (0, .ref d0), (1, .int a1), (2, .int b1), (3, .int c1)]) hx hb dX3_firstBest_67 hl (k := 0) rfl (by rw [ex441]; rfl) (by decide) rfl (fun ls hl => ?_)
      have k442 : Rg x441 1 12 := rg_add ex441 k419 (rg_lit (n := 1) (by decide)) (by decide)
      refine lv_goto (tgt := 17) hx hb dX3_firstBest_70 (by decide) ?_
      exact ih417 (x441) _ _ _ (by show (12 - (x441).toInt).toNat < (12 - (y416).toInt).toNat; exact mu_up ex441 k419 k442 (by decide)) ⟨(hF1.trans (kIter_go (hF2.trans (kLet_eq (ti_add ex441 k419 (rg_lit (n := 1) (by decide)) (by decide) rfl rfl) rfl)))), (rg_w k442 (by decide)), hP.sub (ws' := [(d0, oX3 t0 b0 c0 n0 p0 s0 bc cc_), (t0, kcJ cJ 4096 et), (b0, kcI cI 10 eb), (c0, kcI cI 12 ec), (n0, kcI cI 10 en), (p0, kcI cI 120 ep), (s0, kcI cI 10 es)]) [0, 1, 2, 3, 4, 5, 6] rfl, hD.sub (ws' := [(d0, oX3 t0 b0 c0 n0 p0 s0 bc cc_), (t0, kcJ cJ 4096 et), (b0, kcI cI 10 eb), (c0, kcI cI 12 ec), (n0, kcI cI 10 en), (p0, kcI cI 120 ep), (s0, kcI cI 10 es)]) [0, 1, 2, 3, 4, 5, 6] (by decide) rfl, hS, lv_sub (l' := [(5, .int x441), (4, .int x4), (0, .ref d0), (1, .int a1), (2, .int b1), (3, .int c1)]) hl [0, 1, 2, 3, 4, 5] rfl⟩
    refine lv_if_eq (tgt := 67) hx hb dX3_firstBest_33 (by decide) (fun c443 => ?_) (fun c443 => ?_)
    · skip
      have k444 : Rg x422 0 0 := rg_q1 (eqI c443) k423 (rg_lit (n := 0) (by decide)) (by decide)
      exact hJ67 () _ _ _ ⟨(kif_f (xF_le c418) (kLet_eq (ke_shr ex421) (kLet_eq (ke_and ex422) (kif_t (eqI c443) rfl)))), hP.sub (ws' := [(d0, oX3 t0 b0 c0 n0 p0 s0 bc cc_), (t0, kcJ cJ 4096 et), (b0, kcI cI 10 eb), (c0, kcI cI 12 ec), (n0, kcI cI 10 en), (p0, kcI cI 120 ep), (s0, kcI cI 10 es)]) [0, 1, 2, 3, 4, 5, 6] rfl, hD.sub (ws' := [(d0, oX3 t0 b0 c0 n0 p0 s0 bc cc_), (t0, kcJ cJ 4096 et), (b0, kcI cI 10 eb), (c0, kcI cI 12 ec), (n0, kcI cI 10 en), (p0, kcI cI 120 ep), (s0, kcI cI 10 es)]) [0, 1, 2, 3, 4, 5, 6] (by decide) rfl, hS, lv_sub (l' := [(5, .int y416), (4, .int x4), (0, .ref d0), (1, .int a1), (2, .int b1), (3, .int c1)]) hl [0, 1, 2, 3, 4, 5] rfl⟩
    · skip
      have k445 : Rg x422 1 1 := rg_n1 (neI c443) k423 (rg_lit (n := 0) (by decide)) (by decide)
      refine lv_aload_n hx hb dX3_firstBest_36 rfl (lv_at hl 2 rfl) ?_
      refine lv_iload_n hx hb dX3_firstBest_37 rfl (lv_at hl 4 rfl) ?_
      refine lv_iconst (v := 1) hx hb dX3_firstBest_38 (by decide) ?_
      refine lv_iload hx hb dX3_firstBest_39 (lv_at hl 0 rfl) ?_
      refine lv_ishl hx hb dX3_firstBest_41 ?_
      refine lv_topi (fun x446 ex446 => ?_)
      have k447 : Rg x446 1 2048 := rg_shl1 11 ex446 k419 (by decide)
      refine lv_ior hx hb dX3_firstBest_42 ?_
      refine lv_topi (fun x448 ex448 => ?_)
      refine kpurel (wc := [(d0, oX3 t0 b0 c0 n0 p0 s0 bc cc_), (t0, kcJ cJ 4096 et), (b0, kcI cI 10 eb), (c0, kcI cI 12 ec), (n0, kcI cI 10 en), (p0, kcI cI 120 ep), (s0, kcI cI 10 es)]) hP hD hS hA [0, 1, 2, 3, 4, 5, 6] rfl (by decide) (fun hPc hDc hFc => va_runV (As := [.int x448]) (rest := []) ⟨hx, hb, hml, hown, hts⟩ (z_Hand_valueOf l D cI cJ cB cC d0 t0 b0 c0 n0 p0 s0 bc cc_ et eb ec en ep es x448 H.size H_bc (rg_w k420 (by decide))) (cwV 1 hts gX3_firstBest_X3_valueOf rfl rfl rfl ⟨rfl, hdX3_valueOf⟩ ⟨Nat.le_of_ble_eq_true rfl, Nat.le_of_ble_eq_true rfl⟩) ⟨kBlind, va_recv hK hPc (ci := 3) (q0 := 0) rfl rfl, fun U hU hW => ⟨rfl, by rw [hU], hN.warm hW, hE.pass hS hFc hW hU, by rw [hU]; exact hPc, va_K.moved hW.alike hK, hDc⟩⟩ rfl rfl hl.1 rfl (lv_room (Nat.le_of_ble_eq_true rfl)) dX3_firstBest_43 ⟨Nat.le_of_ble_eq_true rfl, Nat.le_of_ble_eq_true rfl⟩) (fun r449 u H locs hw hP hS => ?_)
      have k450 := hw
      refine lv_aload_n hx hb dX3_firstBest_46 rfl (lv_at hl 2 rfl) ?_
      refine lv_iload_n hx hb dX3_firstBest_47 rfl (lv_at hl 3 rfl) ?_
      refine lv_iload hx hb dX3_firstBest_48 (lv_at hl 0 rfl) ?_
      refine lv_iload_n hx hb dX3_firstBest_50 rfl (lv_at hl 5 rfl) ?_
      refine kpurel (wc := [(d0, oX3 t0 b0 c0 n0 p0 s0 bc cc_), (t0, kcJ cJ 4096 et), (b0, kcI cI 10 eb), (c0, kcI cI 12 ec), (n0, kcI cI 10 en), (p0, kcI cI 120 ep), (s0, kcI cI 10 es)]) hP hD hS hA [0, 1, 2, 3, 4, 5, 6] rfl (by decide) (fun hPc hDc hFc => va_runV (As := [.int a1, .int y416, .int c1]) (rest := [.long r449]) ⟨hx, hb, hml, hown, hts⟩ (z_Hand_priceAt l D cI cJ cB cC d0 t0 b0 c0 n0 p0 s0 bc cc_ et eb ec en ep es a1 y416 c1 H.size H_c1 H_bc (rg_w k420 (by decide))) (cwV 3 hts gX3_firstBest_X3_priceAt rfl rfl rfl ⟨rfl, hdX3_priceAt⟩ ⟨Nat.le_of_ble_eq_true rfl, Nat.le_of_ble_eq_true rfl⟩) ⟨kBlind, va_recv hK hPc (ci := 3) (q0 := 0) rfl rfl, fun U hU hW => ⟨rfl, by rw [hU], hN.warm hW, hE.pass hS hFc hW hU, by rw [hU]; exact hPc, va_K.moved hW.alike hK, hDc⟩⟩ rfl rfl hl.1 rfl (lv_room (Nat.le_of_ble_eq_true rfl)) dX3_firstBest_51 ⟨Nat.le_of_ble_eq_true rfl, Nat.le_of_ble_eq_true rfl⟩) (fun r451 u H locs hw hP hS => ?_)
      have k452 := hw
      refine lv_ladd hx hb dX3_firstBest_54 ?_
      refine lv_topl (fun x453 ex453 => ?_)
      refine lv_aload_n hx hb dX3_firstBest_55 rfl (lv_at hl 2 rfl) ?_
      refine lv_iload_n hx hb dX3_firstBest_56 rfl (lv_at hl 4 rfl) ?_
      refine kpurel (wc := [(d0, oX3 t0 b0 c0 n0 p0 s0 bc cc_), (t0, kcJ cJ 4096 et), (b0, kcI cI 10 eb), (c0, kcI cI 12 ec), (n0, kcI cI 10 en), (p0, kcI cI 120 ep), (s0, kcI cI 10 es)]) hP hD hS hA [0, 1, 2, 3, 4, 5, 6] rfl (by decide) (fun hPc hDc hFc => va_runV (As := [.int b1]) (rest := [.long x453]) ⟨hx, hb, hml, hown, hts⟩ (z_Hand_valueOf l D cI cJ cB cC d0 t0 b0 c0 n0 p0 s0 bc cc_ et eb ec en ep es b1 H.size H_bc (rg_w k420 (by decide))) (cwV 1 hts gX3_firstBest_X3_valueOf rfl rfl rfl ⟨rfl, hdX3_valueOf⟩ ⟨Nat.le_of_ble_eq_true rfl, Nat.le_of_ble_eq_true rfl⟩) ⟨kBlind, va_recv hK hPc (ci := 3) (q0 := 0) rfl rfl, fun U hU hW => ⟨rfl, by rw [hU], hN.warm hW, hE.pass hS hFc hW hU, by rw [hU]; exact hPc, va_K.moved hW.alike hK, hDc⟩⟩ rfl rfl hl.1 rfl (lv_room (Nat.le_of_ble_eq_true rfl)) dX3_firstBest_57 ⟨Nat.le_of_ble_eq_true rfl, Nat.le_of_ble_eq_true rfl⟩) (fun r454 u H locs hw hP hS => ?_)
      have k455 := hw
      refine W.lcmp hx hb dX3_firstBest_60 ?_
      refine lv_topi (fun x456 ex456 => ?_)
      have k457 : Rg x456 (-1) 1 := rg_cmp ex456
      refine lv_if_ne (tgt := 67) hx hb dX3_firstBest_61 (by decide) (fun c458 => ?_) (fun c458 => ?_)
      · skip
        exact hJ67 () _ _ _ ⟨(kif_f (xF_le c418) (kLet_eq (ke_shr ex421) (kLet_eq (ke_and ex422) (kif_f (neI c443) (kLet_eq (ke_shl ex446) (kLet_eq (ke_or ex448) (kLet_eq (k450).symm (kLet_eq (k452).symm (kLet_eq ex453 (kLet_eq (k455).symm (kLet_eq (ke_cmp ex456) (kif_f (neI c458) rfl)))))))))))), hP.sub (ws' := [(d0, oX3 t0 b0 c0 n0 p0 s0 bc cc_), (t0, kcJ cJ 4096 et), (b0, kcI cI 10 eb), (c0, kcI cI 12 ec), (n0, kcI cI 10 en), (p0, kcI cI 120 ep), (s0, kcI cI 10 es)]) [0, 1, 2, 3, 4, 5, 6] rfl, hD.sub (ws' := [(d0, oX3 t0 b0 c0 n0 p0 s0 bc cc_), (t0, kcJ cJ 4096 et), (b0, kcI cI 10 eb), (c0, kcI cI 12 ec), (n0, kcI cI 10 en), (p0, kcI cI 120 ep), (s0, kcI cI 10 es)]) [0, 1, 2, 3, 4, 5, 6] (by decide) rfl, hS, lv_sub (l' := [(5, .int y416), (4, .int x4), (0, .ref d0), (1, .int a1), (2, .int b1), (3, .int c1)]) hl [0, 1, 2, 3, 4, 5] rfl⟩
      · skip
        have k459 : Rg x456 0 0 := rg_q1 (eqI c458) k457 (rg_lit (n := 0) (by decide)) (by decide)
        refine lv_iload hx hb dX3_firstBest_64 (lv_at hl 0 rfl) ?_
        have hP9 := hP.sub (ws' := [(d0, oX3 t0 b0 c0 n0 p0 s0 bc cc_), (t0, kcJ cJ 4096 et), (b0, kcI cI 10 eb), (c0, kcI cI 12 ec), (n0, kcI cI 10 en), (p0, kcI cI 120 ep), (s0, kcI cI 10 es)]) [0, 1, 2, 3, 4, 5, 6] rfl
        have hD9 := hD.sub (ws' := [(d0, oX3 t0 b0 c0 n0 p0 s0 bc cc_), (t0, kcJ cJ 4096 et), (b0, kcI cI 10 eb), (c0, kcI cI 12 ec), (n0, kcI cI 10 en), (p0, kcI cI 120 ep), (s0, kcI cI 10 es)]) [0, 1, 2, 3, 4, 5, 6] (by decide) rfl
        exact W.iret (v := y416) hx hb hr (fun t ht hW => ⟨⟨y416, (), rfl, ⟨(rg_w k419 (by decide)), (hF1.trans (kIter_out (kif_f (xF_le c418) (kLet_eq (ke_shr ex421) (kLet_eq (ke_and ex422) (kif_f (neI c443) (kLet_eq (ke_shl ex446) (kLet_eq (ke_or ex448) (kLet_eq (k450).symm (kLet_eq (k452).symm (kLet_eq ex453 (kLet_eq (k455).symm (kLet_eq (ke_cmp ex456) (kif_t (eqI c458) rfl))))))))))))))⟩, by rw [ht]; exact hP9, va_K.moved hW.alike hK, hD9⟩, hS.F ht⟩) hS.2.2 dX3_firstBest_66

def kwX3_choose : List Cond := .code yX3_choose cX3_choose 5 (some .boolean) :: kG
theorem hdX3_choose : yX3_choose.cls ≠ "java/lang/invoke/MethodHandle" ∧ yX3_choose.cls ≠ "java/lang/invoke/VarHandle" ∧ (parseMethodDescriptor yX3_choose.desc).map (fun d => d.parameters.length) = some 1 := by decide +kernel
theorem gX3_choose_J7_fill_53178 : GoodIn kG (va_wsS RX3 108 yJ7_fill_53178 kwJ7_fill_53178) := gK w41_3 (gK w41_4 (gK w24_12 (gK w41_5 gGG)))
theorem gX3_choose_X10_setAt_n69 : GoodIn kG (kwX10_setAt) := gK w11_11 gGG
theorem gX3_choose_X10_valueAt_n57 : GoodIn kG (kwX10_valueAt) := gK w8_10 gGG
theorem gX3_choose_X3_firstBest : GoodIn kG (wsV RX3 114 RX3 yX3_firstBest kwX3_firstBest) := gK w41_21 (gK w41_22 (gK w41_23 (gK w1_13 (gK w42_0 gGG))))
theorem gX3_choose_X3_weigh : GoodIn kG (wsV RX3 104 RX3 yX3_weigh kwX3_weigh) := gK w41_6 (gK w41_7 (gK w41_8 (gK w1_13 (gK w41_9 gGG))))
theorem dX3_choose_0 : decode cX3_choose 0 = .ok (.aload_n 0, 1) := by decide +kernel
theorem dX3_choose_1 : decode cX3_choose 1 = .ok (.getfield 28, 3) := by decide +kernel
theorem dX3_choose_4 : decode cX3_choose 4 = .ok (.iconst (-1), 1) := by decide +kernel
theorem dX3_choose_5 : decode cX3_choose 5 = .ok (.invokestatic 108, 3) := by decide +kernel
theorem dX3_choose_8 : decode cX3_choose 8 = .ok (.aload_n 0, 1) := by decide +kernel
theorem dX3_choose_9 : decode cX3_choose 9 = .ok (.iload_n 1, 1) := by decide +kernel
theorem dX3_choose_10 : decode cX3_choose 10 = .ok (.invokevirtual 104, 3) := by decide +kernel
theorem dX3_choose_13 : decode cX3_choose 13 = .ok (.ldc2_w 73, 3) := by decide +kernel
theorem dX3_choose_16 : decode cX3_choose 16 = .ok (.lcmp, 1) := by decide +kernel
theorem dX3_choose_17 : decode cX3_choose 17 = .ok (.ifCond .lt 5, 3) := by decide +kernel
theorem dX3_choose_20 : decode cX3_choose 20 = .ok (.iconst 0, 1) := by decide +kernel
theorem dX3_choose_21 : decode cX3_choose 21 = .ok (.ireturn, 1) := by decide +kernel
theorem dX3_choose_22 : decode cX3_choose 22 = .ok (.iconst 0, 1) := by decide +kernel
theorem dX3_choose_23 : decode cX3_choose 23 = .ok (.istore_n 2, 1) := by decide +kernel
theorem dX3_choose_24 : decode cX3_choose 24 = .ok (.iconst 0, 1) := by decide +kernel
theorem dX3_choose_25 : decode cX3_choose 25 = .ok (.istore_n 3, 1) := by decide +kernel
theorem dX3_choose_26 : decode cX3_choose 26 = .ok (.iload_n 3, 1) := by decide +kernel
theorem dX3_choose_27 : decode cX3_choose 27 = .ok (.aload_n 0, 1) := by decide +kernel
theorem dX3_choose_28 : decode cX3_choose 28 = .ok (.getfield 31, 3) := by decide +kernel
theorem dX3_choose_31 : decode cX3_choose 31 = .ok (.if_icmp .ge 57, 3) := by decide +kernel
theorem dX3_choose_34 : decode cX3_choose 34 = .ok (.aload_n 0, 1) := by decide +kernel
theorem dX3_choose_35 : decode cX3_choose 35 = .ok (.iload_n 3, 1) := by decide +kernel
theorem dX3_choose_36 : decode cX3_choose 36 = .ok (.iload_n 2, 1) := by decide +kernel
theorem dX3_choose_37 : decode cX3_choose 37 = .ok (.iload_n 1, 1) := by decide +kernel
theorem dX3_choose_38 : decode cX3_choose 38 = .ok (.invokevirtual 114, 3) := by decide +kernel
theorem dX3_choose_41 : decode cX3_choose 41 = .ok (.istore 4, 2) := by decide +kernel
theorem dX3_choose_43 : decode cX3_choose 43 = .ok (.iload 4, 2) := by decide +kernel
theorem dX3_choose_45 : decode cX3_choose 45 = .ok (.iconst (-1), 1) := by decide +kernel
theorem dX3_choose_46 : decode cX3_choose 46 = .ok (.if_icmp .ne 5, 3) := by decide +kernel
theorem dX3_choose_49 : decode cX3_choose 49 = .ok (.iconst 0, 1) := by decide +kernel
theorem dX3_choose_50 : decode cX3_choose 50 = .ok (.ireturn, 1) := by decide +kernel
theorem dX3_choose_51 : decode cX3_choose 51 = .ok (.aload_n 0, 1) := by decide +kernel
theorem dX3_choose_52 : decode cX3_choose 52 = .ok (.getfield 28, 3) := by decide +kernel
theorem dX3_choose_55 : decode cX3_choose 55 = .ok (.aload_n 0, 1) := by decide +kernel
theorem dX3_choose_56 : decode cX3_choose 56 = .ok (.getfield 15, 3) := by decide +kernel
theorem dX3_choose_59 : decode cX3_choose 59 = .ok (.iload_n 3, 1) := by decide +kernel
theorem dX3_choose_60 : decode cX3_choose 60 = .ok (.invokestatic 57, 3) := by decide +kernel
theorem dX3_choose_63 : decode cX3_choose 63 = .ok (.aload_n 0, 1) := by decide +kernel
theorem dX3_choose_64 : decode cX3_choose 64 = .ok (.getfield 19, 3) := by decide +kernel
theorem dX3_choose_67 : decode cX3_choose 67 = .ok (.iload 4, 2) := by decide +kernel
theorem dX3_choose_69 : decode cX3_choose 69 = .ok (.invokestatic 57, 3) := by decide +kernel
theorem dX3_choose_72 : decode cX3_choose 72 = .ok (.invokestatic 69, 3) := by decide +kernel
theorem dX3_choose_75 : decode cX3_choose 75 = .ok (.iload_n 2, 1) := by decide +kernel
theorem dX3_choose_76 : decode cX3_choose 76 = .ok (.iconst 1, 1) := by decide +kernel
theorem dX3_choose_77 : decode cX3_choose 77 = .ok (.iload 4, 2) := by decide +kernel
theorem dX3_choose_79 : decode cX3_choose 79 = .ok (.ishl, 1) := by decide +kernel
theorem dX3_choose_80 : decode cX3_choose 80 = .ok (.ior, 1) := by decide +kernel
theorem dX3_choose_81 : decode cX3_choose 81 = .ok (.istore_n 2, 1) := by decide +kernel
theorem dX3_choose_82 : decode cX3_choose 82 = .ok (.iinc 3 1, 3) := by decide +kernel
theorem dX3_choose_85 : decode cX3_choose 85 = .ok (.goto (-59), 3) := by decide +kernel
theorem dX3_choose_88 : decode cX3_choose 88 = .ok (.iconst 1, 1) := by decide +kernel
theorem dX3_choose_89 : decode cX3_choose 89 = .ok (.ireturn, 1) := by decide +kernel
set_option maxHeartbeats 4000000 in
set_option maxRecDepth 100000 in
/-- Handing.choose -/
theorem z_Hand_choose (l : Launch) (D : va_G) (cI cJ cB cC : ClassId) (d0 : Nat) (t0 : Nat) (b0 : Nat) (c0 : Nat) (n0 : Nat) (p0 : Nat) (s0 : Nat) (bc : Int32) (cc_ : Int32) (et : Nat → Int64) (eb : Nat → Int32) (ec : Nat → Int32) (en : Nat → Int32) (ep : Nat → Int32) (es : Nat → Int32) (a1 : Int32) (sz : Nat) (H_a1 : Rg a1 0 1) (H_bc : Rg bc 0 10) (H_cc_ : Rg cc_ 0 12) : Met l yX3_choose kwX3_choose ({ frames := 4, cells := 0, slots := 0, locals := 93 } : Room) (kPre D (kT cI cJ cB cC) sz [(d0, oX3 t0 b0 c0 n0 p0 s0 bc cc_), (t0, kcJ cJ 4096 et), (b0, kcI cI 10 eb), (c0, kcI cI 12 ec), (n0, kcI cI 10 en), (p0, kcI cI 120 ep), (s0, kcI cI 10 es)] [.ref d0, .int a1]) (va_Qi (fun (r : Int32) (uu : (Nat → Int64) × (Nat → Int32)) => match uu with | (f0_, f1_) => F_z_Hand_choose (bc : Int32).toInt (cc_ : Int32).toInt et (gT eb) (gT ec) (gT en) (gT ep) (gT es) (a1 : Int32).toInt = ((r : Int32).toInt, f0_, (gT f1_)) ∧ ((r = 0) ∨ (r = 1))) (fun (uu : (Nat → Int64) × (Nat → Int32)) (t : State) => match uu with | (f0_, f1_) => kB D (kT cI cJ cB cC) (va_A [(d0, oX3 t0 b0 c0 n0 p0 s0 bc cc_), (t0, kcJ cJ 4096 et), (b0, kcI cI 10 eb), (c0, kcI cI 12 ec), (n0, kcI cI 10 en), (p0, kcI cI 120 ep), (s0, kcI cI 10 es)] sz) [(d0, oX3 t0 b0 c0 n0 p0 s0 bc cc_), (t0, kcJ cJ 4096 f0_), (b0, kcI cI 10 eb), (c0, kcI cI 12 ec), (n0, kcI cI 10 en), (p0, kcI cI 120 ep), (s0, kcI cI 10 f1_)] t) (va_A [(d0, oX3 t0 b0 c0 n0 p0 s0 bc cc_), (t0, kcJ cJ 4096 et), (b0, kcI cI 10 eb), (c0, kcI cI 12 ec), (n0, kcI cI 10 en), (p0, kcI cI 120 ep), (s0, kcI cI 10 es)] sz)) 0 0 (va_A [(d0, oX3 t0 b0 c0 n0 p0 s0 bc cc_), (t0, kcJ cJ 4096 et), (b0, kcI cI 10 eb), (c0, kcI cI 12 ec), (n0, kcI cI 10 en), (p0, kcI cI 120 ep), (s0, kcI cI 10 es)] sz) := by
  refine Met.ofW (cc := cX3_choose) (maxL := 5) (ret := (some .boolean)) (by decide) rfl ?_
  intro p e s m args below meth c s₁ B hml hv
  obtain ⟨rfl, hsz, hN, hE, hP, hK, hD0⟩ := hv
  have hx := B.exec
  have hb := B.bytes
  have hr := B.returns
  have hts := fun (w : Cond) (h : w ∈ kG) => atoms_spec (ws := kwX3_choose) B.pre w (List.mem_cons_of_mem _ h)
  have hown : s.vm.findClass RX3 = some m.cls := findClass_of_methodNamed B.named
  subst hsz
  have hD := hD0.self (sz := s.heap.size)
  generalize hAe : va_A [(d0, oX3 t0 b0 c0 n0 p0 s0 bc cc_), (t0, kcJ cJ 4096 et), (b0, kcI cI 10 eb), (c0, kcI cI 12 ec), (n0, kcI cI 10 en), (p0, kcI cI 120 ep), (s0, kcI cI 10 es)] s.heap.size = A at hD hE ⊢
  have hA : ∀ q : Nat, s.heap.size ≤ q → A q := fun q h => by rw [← hAe]; exact Or.inr h
  have hl := lv_entry ([.ref d0, .int a1]) (n := 5) (Nat.le_of_ble_eq_true rfl)
  rw [lg_entry_eq]
  generalize (lg_sl ([.ref d0, .int a1]) ++ List.replicate (5 - (lg_sl ([.ref d0, .int a1])).length) Slot.unset).toArray = ls at hl ⊢
  have hl : lv_has ls 5 [(0, .ref d0), (1, .int a1)] := hl
  obtain ⟨H, hH0⟩ : ∃ H, H = s.heap := ⟨_, rfl⟩
  have hS : va_S A s.heap H [] := by rw [hH0]; exact va_S.rf
  have hP : va_P D vwCl [(d0, oX3 t0 b0 c0 n0 p0 s0 bc cc_), (t0, kcJ cJ 4096 et), (b0, kcI cI 10 eb), (c0, kcI cI 12 ec), (n0, kcI cI 10 en), (p0, kcI cI 120 ep), (s0, kcI cI 10 es)] H := by rw [hH0]; exact hP
  refine kHeap hH0 ?_
  clear hH0
  refine lv_aload_n hx hb dX3_choose_0 rfl (lv_at hl 0 rfl) ?_
  refine va_get (D := D) (ci := 3) (v := .ref s0) (C := RX3) (T := TX3) (N := 8) hx hb hts iG_X3 hown hK hP 0 rfl rfl 5 (by decide) (hts _ w4_9) (fun _ h9 => h9) rfl dX3_choose_1 ?_
  refine lv_iconst (v := (-1)) hx hb dX3_choose_4 (by decide) ?_
  refine kcallv (wc := [(s0, kcI cI 10 es)]) (wr := [(d0, oX3 t0 b0 c0 n0 p0 s0 bc cc_), (t0, kcJ cJ 4096 et), (b0, kcI cI 10 eb), (c0, kcI cI 12 ec), (n0, kcI cI 10 en), (p0, kcI cI 120 ep)]) hP hD hS hA [6] [0, 1, 2, 3, 4, 5] rfl rfl (by decide) (by decide) (by decide) (fun hPc hDc hFc => va_runS (As := [.ref s0, .int (-1)]) (rest := []) ⟨hx, hb, hml, hown, hts⟩ (z_fillI l D cI cJ cB cC s0 10 es (-1) H.size) (va_cwS 2 hts gX3_choose_J7_fill_53178 rfl rfl rfl hdJ7_fill_53178 ⟨Nat.le_of_ble_eq_true rfl, Nat.le_of_ble_eq_true rfl⟩) ⟨kBlind, fun U hU hW => ⟨rfl, by rw [hU], hN.warm hW, hE.pass hS hFc hW hU, by rw [hU]; exact hPc, va_K.moved hW.alike hK, hDc⟩⟩ rfl rfl hl.1 rfl (lv_room (Nat.le_of_ble_eq_true rfl)) dX3_choose_5 ⟨Nat.le_of_ble_eq_true rfl, Nat.le_of_ble_eq_true rfl⟩) (fun u H locs hw hP hD hS => ?_)
  obtain ⟨g1, rfl⟩ : ∃ z, z = u := ⟨_, rfl⟩
  have hP : va_P D vwCl [(d0, oX3 t0 b0 c0 n0 p0 s0 bc cc_), (t0, kcJ cJ 4096 et), (b0, kcI cI 10 eb), (c0, kcI cI 12 ec), (n0, kcI cI 10 en), (p0, kcI cI 120 ep), (s0, kcI cI 10 g1)] H := hP
  have hD : va_D A [(d0, oX3 t0 b0 c0 n0 p0 s0 bc cc_), (t0, kcJ cJ 4096 et), (b0, kcI cI 10 eb), (c0, kcI cI 12 ec), (n0, kcI cI 10 en), (p0, kcI cI 120 ep), (s0, kcI cI 10 g1)] := hD
  have k2 := hw
  refine lv_aload_n hx hb dX3_choose_8 rfl (lv_at hl 0 rfl) ?_
  refine lv_iload_n hx hb dX3_choose_9 rfl (lv_at hl 1 rfl) ?_
  refine kcalll (wc := [(d0, oX3 t0 b0 c0 n0 p0 s0 bc cc_), (t0, kcJ cJ 4096 et), (b0, kcI cI 10 eb), (c0, kcI cI 12 ec), (n0, kcI cI 10 en), (p0, kcI cI 120 ep), (s0, kcI cI 10 g1)]) (wr := []) hP hD hS hA [0, 1, 2, 3, 4, 5, 6] [] rfl rfl (by decide) (by decide) (by decide) (fun hPc hDc hFc => va_runV (As := [.int a1]) (rest := []) ⟨hx, hb, hml, hown, hts⟩ (z_Hand_weigh l D cI cJ cB cC d0 t0 b0 c0 n0 p0 s0 bc cc_ et eb ec en ep g1 a1 H.size H_a1 H_bc H_cc_) (cwV 1 hts gX3_choose_X3_weigh rfl rfl rfl ⟨rfl, hdX3_weigh⟩ ⟨Nat.le_of_ble_eq_true rfl, Nat.le_of_ble_eq_true rfl⟩) ⟨kBlind, va_recv hK hPc (ci := 3) (q0 := 0) rfl rfl, fun U hU hW => ⟨rfl, by rw [hU], hN.warm hW, hE.pass hS hFc hW hU, by rw [hU]; exact hPc, va_K.moved hW.alike hK, hDc⟩⟩ rfl rfl hl.1 rfl (lv_room (Nat.le_of_ble_eq_true rfl)) dX3_choose_10 ⟨Nat.le_of_ble_eq_true rfl, Nat.le_of_ble_eq_true rfl⟩) (fun r3 u H locs hw hP hD hS => ?_)
  obtain ⟨g4, rfl⟩ : ∃ z, z = u := ⟨_, rfl⟩
  have hP : va_P D vwCl [(d0, oX3 t0 b0 c0 n0 p0 s0 bc cc_), (t0, kcJ cJ 4096 g4), (b0, kcI cI 10 eb), (c0, kcI cI 12 ec), (n0, kcI cI 10 en), (p0, kcI cI 120 ep), (s0, kcI cI 10 g1)] H := hP
  have hD : va_D A [(d0, oX3 t0 b0 c0 n0 p0 s0 bc cc_), (t0, kcJ cJ 4096 g4), (b0, kcI cI 10 eb), (c0, kcI cI 12 ec), (n0, kcI cI 10 en), (p0, kcI cI 120 ep), (s0, kcI cI 10 g1)] := hD
  have k5 := hw
  refine lv_ldc2 (v := 1099511627776) hx hb hown (hts _ w39_22) dX3_choose_13 ?_
  refine W.lcmp hx hb dX3_choose_16 ?_
  refine lv_topi (fun x6 ex6 => ?_)
  have k7 : Rg x6 (-1) 1 := rg_cmp ex6
  refine lv_if_lt (tgt := 22) hx hb dX3_choose_17 (by decide) (fun c8 => ?_) (fun c8 => ?_)
  · skip
    have k9 : Rg x6 (-1) (-1) := rg_l1 (ltI c8) k7 (rg_lit (n := 0) (by decide)) (by decide)
    refine lv_iconst (v := 0) hx hb dX3_choose_22 (by decide) ?_
    refine lv_istore_n (lv' := [(2, .int 0), (0, .ref d0), (1, .int a1)]) hx hb dX3_choose_23 rfl hl (by decide) rfl (fun ls hl => ?_)
    refine lv_iconst (v := 0) hx hb dX3_choose_24 (by decide) ?_
    refine lv_istore_n (lv' := [(3, .int 0), (2, .int 0), (0, .ref d0), (1, .int a1)]) hx hb dX3_choose_25 rfl hl (by decide) rfl (fun ls hl => ?_)
    refine k_loop (hd := 26) (fun (u : Int32 × Int32 × (Nat → Int32)) => match u with | (y389, y390, g391) => (10 - (y389).toInt).toNat) (fun (u : Int32 × Int32 × (Nat → Int32)) (H : Heap) (locs : List Loc) (ls : Array Slot) => match u with | (y389, y390, g391) => (F_z_Hand_choose bc.toInt cc_.toInt et (gT eb) (gT ec) (gT en) (gT ep) (gT es) a1.toInt = F_z_Hand_choose_l1 bc.toInt cc_.toInt (gT eb) (gT ec) (gT en) (gT ep) a1.toInt g4 (y389.toInt, y390.toInt, (gT g391))) ∧ Rg y389 0 10 ∧ Rg y390 0 4095 ∧ va_P D vwCl [(d0, oX3 t0 b0 c0 n0 p0 s0 bc cc_), (t0, kcJ cJ 4096 g4), (b0, kcI cI 10 eb), (c0, kcI cI 12 ec), (n0, kcI cI 10 en), (p0, kcI cI 120 ep), (s0, kcI cI 10 g391)] H ∧ va_D A [(d0, oX3 t0 b0 c0 n0 p0 s0 bc cc_), (t0, kcJ cJ 4096 g4), (b0, kcI cI 10 eb), (c0, kcI cI 12 ec), (n0, kcI cI 10 en), (p0, kcI cI 120 ep), (s0, kcI cI 10 g391)] ∧ va_S A s.heap H locs ∧ lv_has ls 5 [(3, .int y389), (2, .int y390), (0, .ref d0), (1, .int a1)]) ((0 : Int32), (0 : Int32), g1) ⟨(kLet_eq (k2).symm (kC_eq k5 (kLet_eq (ke_cmp ex6) (kif_t (ltI c8) rfl)))), (rg_w (rg_lit (n := 0) (by decide)) (by decide)), (rg_w (rg_lit (n := 0) (by decide)) (by decide)), hP.sub (ws' := [(d0, oX3 t0 b0 c0 n0 p0 s0 bc cc_), (t0, kcJ cJ 4096 g4), (b0, kcI cI 10 eb), (c0, kcI cI 12 ec), (n0, kcI cI 10 en), (p0, kcI cI 120 ep), (s0, kcI cI 10 g1)]) [0, 1, 2, 3, 4, 5, 6] rfl, hD.sub (ws' := [(d0, oX3 t0 b0 c0 n0 p0 s0 bc cc_), (t0, kcJ cJ 4096 g4), (b0, kcI cI 10 eb), (c0, kcI cI 12 ec), (n0, kcI cI 10 en), (p0, kcI cI 120 ep), (s0, kcI cI 10 g1)]) [0, 1, 2, 3, 4, 5, 6] (by decide) rfl, hS, lv_sub (l' := [(3, .int 0), (2, .int 0), (0, .ref d0), (1, .int a1)]) hl [0, 1, 2, 3] rfl⟩ (fun u H locs ls hI ih392 => ?_)
    clear hP hD hS hl
    obtain ⟨y389, y390, g391⟩ := u
    obtain ⟨hF1, hy389, hy390, hP, hD, hS, hl⟩ := hI
    have hP : va_P D vwCl [(d0, oX3 t0 b0 c0 n0 p0 s0 bc cc_), (t0, kcJ cJ 4096 g4), (b0, kcI cI 10 eb), (c0, kcI cI 12 ec), (n0, kcI cI 10 en), (p0, kcI cI 120 ep), (s0, kcI cI 10 g391)] H := hP
    have hD : va_D A [(d0, oX3 t0 b0 c0 n0 p0 s0 bc cc_), (t0, kcJ cJ 4096 g4), (b0, kcI cI 10 eb), (c0, kcI cI 12 ec), (n0, kcI cI 10 en), (p0, kcI cI 120 ep), (s0, kcI cI 10 g391)] := hD
    have hl : lv_has ls 5 [(3, .int y389), (2, .int y390), (0, .ref d0), (1, .int a1)] := hl
    refine lv_iload_n hx hb dX3_choose_26 rfl (lv_at hl 0 rfl) ?_
    refine lv_aload_n hx hb dX3_choose_27 rfl (lv_at hl 2 rfl) ?_
    refine va_get (D := D) (ci := 3) (v := .int bc) (C := RX3) (T := TX3) (N := 8) hx hb hts iG_X3 hown hK hP 0 rfl rfl 6 (by decide) (hts _ w4_10) (fun _ h9 => h9) rfl dX3_choose_28 ?_
    refine lv_icmp_ge (tgt := 88) hx hb dX3_choose_31 (by decide) (fun c393 => ?_) (fun c393 => ?_)
    · skip
      refine lv_iconst (v := 1) hx hb dX3_choose_88 (by decide) ?_
      have hP9 := hP.sub (ws' := [(d0, oX3 t0 b0 c0 n0 p0 s0 bc cc_), (t0, kcJ cJ 4096 g4), (b0, kcI cI 10 eb), (c0, kcI cI 12 ec), (n0, kcI cI 10 en), (p0, kcI cI 120 ep), (s0, kcI cI 10 g391)]) [0, 1, 2, 3, 4, 5, 6] rfl
      have hD9 := hD.sub (ws' := [(d0, oX3 t0 b0 c0 n0 p0 s0 bc cc_), (t0, kcJ cJ 4096 g4), (b0, kcI cI 10 eb), (c0, kcI cI 12 ec), (n0, kcI cI 10 en), (p0, kcI cI 120 ep), (s0, kcI cI 10 g391)]) [0, 1, 2, 3, 4, 5, 6] (by decide) rfl
      exact W.zret (v := 1) hx hb hr (by decide) (fun t ht hW => ⟨⟨1, (g4, g391), rfl, ⟨(hF1.trans (kIter_out (kC_eq rfl (kC_eq rfl (kif_t (leI c393) rfl))))), (Or.inr rfl)⟩, by rw [ht]; exact hP9, va_K.moved hW.alike hK, hD9⟩, hS.F ht⟩) hS.2.2 dX3_choose_89
    · skip
      have k394 : Rg y389 0 9 := rg_l1 (nleI c393) hy389 H_bc (by decide)
      have k395 : Rg bc 1 10 := rg_l2 (nleI c393) hy389 H_bc (by decide)
      refine lv_aload_n hx hb dX3_choose_34 rfl (lv_at hl 2 rfl) ?_
      refine lv_iload_n hx hb dX3_choose_35 rfl (lv_at hl 0 rfl) ?_
      refine lv_iload_n hx hb dX3_choose_36 rfl (lv_at hl 1 rfl) ?_
      refine lv_iload_n hx hb dX3_choose_37 rfl (lv_at hl 3 rfl) ?_
      refine kpurei (wc := [(d0, oX3 t0 b0 c0 n0 p0 s0 bc cc_), (t0, kcJ cJ 4096 g4), (b0, kcI cI 10 eb), (c0, kcI cI 12 ec), (n0, kcI cI 10 en), (p0, kcI cI 120 ep), (s0, kcI cI 10 g391)]) hP hD hS hA [0, 1, 2, 3, 4, 5, 6] rfl (by decide) (fun hPc hDc hFc => va_runV (As := [.int y389, .int y390, .int a1]) (rest := []) ⟨hx, hb, hml, hown, hts⟩ (z_Hand_firstBest l D cI cJ cB cC d0 t0 b0 c0 n0 p0 s0 bc cc_ g4 eb ec en ep g391 y389 y390 a1 H.size H_a1 (rg_w k395 (by decide)) H_cc_) (cwV 3 hts gX3_choose_X3_firstBest rfl rfl rfl ⟨rfl, hdX3_firstBest⟩ ⟨Nat.le_of_ble_eq_true rfl, Nat.le_of_ble_eq_true rfl⟩) ⟨kBlind, va_recv hK hPc (ci := 3) (q0 := 0) rfl rfl, fun U hU hW => ⟨rfl, by rw [hU], hN.warm hW, hE.pass hS hFc hW hU, by rw [hU]; exact hPc, va_K.moved hW.alike hK, hDc⟩⟩ rfl rfl hl.1 rfl (lv_room (Nat.le_of_ble_eq_true rfl)) dX3_choose_38 ⟨Nat.le_of_ble_eq_true rfl, Nat.le_of_ble_eq_true rfl⟩) (fun r396 u H locs hw hP hS => ?_)
      obtain ⟨k397, k398⟩ := hw
      refine lv_istore (lv' := [(4, .int r396), (3, .int y389), (2, .int y390), (0, .ref d0), (1, .int a1)]) hx hb dX3_choose_41 hl (by decide) rfl (fun ls hl => ?_)
      refine lv_iload hx hb dX3_choose_43 (lv_at hl 0 rfl) ?_
      refine lv_iconst (v := (-1)) hx hb dX3_choose_45 (by decide) ?_
      refine lv_icmp_ne (tgt := 51) hx hb dX3_choose_46 (by decide) (fun c399 => ?_) (fun c399 => ?_)
      · skip
        have k400 : Rg r396 0 11 := rg_n1 (neI c399) k397 (rg_lit (n := -1) (by decide)) (by decide)
        refine lv_aload_n hx hb dX3_choose_51 rfl (lv_at hl 3 rfl) ?_
        refine va_get (D := D) (ci := 3) (v := .ref s0) (C := RX3) (T := TX3) (N := 8) hx hb hts iG_X3 hown hK hP 0 rfl rfl 5 (by decide) (hts _ w4_9) (fun _ h9 => h9) rfl dX3_choose_52 ?_
        refine lv_aload_n hx hb dX3_choose_55 rfl (lv_at hl 3 rfl) ?_
        refine va_get (D := D) (ci := 3) (v := .ref b0) (C := RX3) (T := TX3) (N := 8) hx hb hts iG_X3 hown hK hP 0 rfl rfl 1 (by decide) (hts _ w4_5) (fun _ h9 => h9) rfl dX3_choose_56 ?_
        refine lv_iload_n hx hb dX3_choose_59 rfl (lv_at hl 1 rfl) ?_
        refine kpurei (wc := [(b0, kcI cI 10 eb)]) hP hD hS hA [2] rfl (by decide) (fun hPc hDc hFc => va_runSN (As := [.ref b0, .int y389]) (rest := [.ref s0]) ⟨hx, hb, hml, hown, hts⟩ (z_valueAt l D cI cJ cB cC b0 10 eb y389 H.size) ⟨va_cnB 2 hts gX3_choose_X10_valueAt_n57 rfl rfl rfl (nM_19 hN) (hts _ w0_2) hdX10_valueAt ⟨Nat.le_of_ble_eq_true rfl, Nat.le_of_ble_eq_true rfl⟩, hts _ w8_9, trivial⟩ ⟨kBlind, fun U hU hW => ⟨rfl, by rw [hU], hN.warm hW, hE.pass hS hFc hW hU, by rw [hU]; exact hPc, va_K.moved hW.alike hK, hDc⟩⟩ rfl rfl hl.1 rfl (lv_room (Nat.le_of_ble_eq_true rfl)) dX3_choose_60 ⟨Nat.le_of_ble_eq_true rfl, Nat.le_of_ble_eq_true rfl⟩) (fun r401 u H locs hw hP hS => ?_)
        have k402 := hw
        refine lv_aload_n hx hb dX3_choose_63 rfl (lv_at hl 3 rfl) ?_
        refine va_get (D := D) (ci := 3) (v := .ref c0) (C := RX3) (T := TX3) (N := 8) hx hb hts iG_X3 hown hK hP 0 rfl rfl 2 (by decide) (hts _ w4_6) (fun _ h9 => h9) rfl dX3_choose_64 ?_
        refine lv_iload hx hb dX3_choose_67 (lv_at hl 0 rfl) ?_
        refine kpurei (wc := [(c0, kcI cI 12 ec)]) hP hD hS hA [3] rfl (by decide) (fun hPc hDc hFc => va_runSN (As := [.ref c0, .int r396]) (rest := [.int r401, .ref s0]) ⟨hx, hb, hml, hown, hts⟩ (z_valueAt l D cI cJ cB cC c0 12 ec r396 H.size) ⟨va_cnB 2 hts gX3_choose_X10_valueAt_n57 rfl rfl rfl (nM_19 hN) (hts _ w0_2) hdX10_valueAt ⟨Nat.le_of_ble_eq_true rfl, Nat.le_of_ble_eq_true rfl⟩, hts _ w8_9, trivial⟩ ⟨kBlind, fun U hU hW => ⟨rfl, by rw [hU], hN.warm hW, hE.pass hS hFc hW hU, by rw [hU]; exact hPc, va_K.moved hW.alike hK, hDc⟩⟩ rfl rfl hl.1 rfl (lv_room (Nat.le_of_ble_eq_true rfl)) dX3_choose_69 ⟨Nat.le_of_ble_eq_true rfl, Nat.le_of_ble_eq_true rfl⟩) (fun r403 u H locs hw hP hS => ?_)
        have k404 := hw
        refine kcallv (wc := [(s0, kcI cI 10 g391)]) (wr := [(d0, oX3 t0 b0 c0 n0 p0 s0 bc cc_), (t0, kcJ cJ 4096 g4), (b0, kcI cI 10 eb), (c0, kcI cI 12 ec), (n0, kcI cI 10 en), (p0, kcI cI 120 ep)]) hP hD hS hA [6] [0, 1, 2, 3, 4, 5] rfl rfl (by decide) (by decide) (by decide) (fun hPc hDc hFc => va_runSN (As := [.ref s0, .int r401, .int r403]) (rest := []) ⟨hx, hb, hml, hown, hts⟩ (z_setAt l D cI cJ cB cC s0 10 g391 r401 r403 H.size) ⟨va_cnB 3 hts gX3_choose_X10_setAt_n69 rfl rfl rfl (nM_27 hN) (hts _ w0_2) hdX10_setAt ⟨Nat.le_of_ble_eq_true rfl, Nat.le_of_ble_eq_true rfl⟩, hts _ w11_10, trivial⟩ ⟨kBlind, fun U hU hW => ⟨rfl, by rw [hU], hN.warm hW, hE.pass hS hFc hW hU, by rw [hU]; exact hPc, va_K.moved hW.alike hK, hDc⟩⟩ rfl rfl hl.1 rfl (lv_room (Nat.le_of_ble_eq_true rfl)) dX3_choose_72 ⟨Nat.le_of_ble_eq_true rfl, Nat.le_of_ble_eq_true rfl⟩) (fun u H locs hw hP hD hS => ?_)
        obtain ⟨g405, rfl⟩ : ∃ z, z = u := ⟨_, rfl⟩
        have hP : va_P D vwCl [(d0, oX3 t0 b0 c0 n0 p0 s0 bc cc_), (t0, kcJ cJ 4096 g4), (b0, kcI cI 10 eb), (c0, kcI cI 12 ec), (n0, kcI cI 10 en), (p0, kcI cI 120 ep), (s0, kcI cI 10 g405)] H := hP
        have hD : va_D A [(d0, oX3 t0 b0 c0 n0 p0 s0 bc cc_), (t0, kcJ cJ 4096 g4), (b0, kcI cI 10 eb), (c0, kcI cI 12 ec), (n0, kcI cI 10 en), (p0, kcI cI 120 ep), (s0, kcI cI 10 g405)] := hD
        have k406 := hw
        refine lv_iload_n hx hb dX3_choose_75 rfl (lv_at hl 2 rfl) ?_
        refine lv_iconst (v := 1) hx hb dX3_choose_76 (by decide) ?_
        refine lv_iload hx hb dX3_choose_77 (lv_at hl 0 rfl) ?_
        refine lv_ishl hx hb dX3_choose_79 ?_
        refine lv_topi (fun x407 ex407 => ?_)
        have k408 : Rg x407 1 2048 := rg_shl1 11 ex407 k400 (by decide)
        refine lv_ior hx hb dX3_choose_80 ?_
        refine lv_topi (fun x409 ex409 => ?_)
        have k410 : Rg x409 0 4095 := rg_or 12 ex409 hy390 k408 (by decide)
        refine lv_istore_n (lv' := [(2, .int x409), (4, .int r396), (3, .int y389), (0, .ref d0), (1, .int a1)]) hx hb dX3_choose_81 rfl hl (by decide) rfl (fun ls hl => ?_)
        obtain ⟨x411, ex411⟩ : ∃ y : Int32, y = y389 + 1 := ⟨_, rfl⟩
        refine lv_iinc (v := x411) (lv' := [(3, .int x411), (2, .int x409), (4, .int r396), (0, .ref d0), (1, .int a1)]) hx hb dX3_choose_82 hl (k := 2) rfl (by rw [ex411]; rfl) (by decide) rfl (fun ls hl => ?_)
        have k412 : Rg x411 1 10 := rg_add ex411 k394 (rg_lit (n := 1) (by decide)) (by decide)
        refine lv_goto (tgt := 26) hx hb dX3_choose_85 (by decide) ?_
        exact ih392 (x411, x409, g405) _ _ _ (by show (10 - (x411).toInt).toNat < (10 - (y389).toInt).toNat; exact mu_up ex411 k394 k412 (by decide)) ⟨(hF1.trans (kIter_go (kC_eq rfl (kC_eq rfl (kif_f (xF_le c393) (kLet_eq (k398).symm (kif_f (neI c399) (kLet_eq (k402).symm (kLet_eq (k404).symm (kLet_eq (k406).symm (kLet_eq (ke_shl ex407) (kLet_eq (ke_or ex409) (kLet_eq (ti_add ex411 k394 (rg_lit (n := 1) (by decide)) (by decide) rfl rfl) rfl))))))))))))), (rg_w k412 (by decide)), k410, hP.sub (ws' := [(d0, oX3 t0 b0 c0 n0 p0 s0 bc cc_), (t0, kcJ cJ 4096 g4), (b0, kcI cI 10 eb), (c0, kcI cI 12 ec), (n0, kcI cI 10 en), (p0, kcI cI 120 ep), (s0, kcI cI 10 g405)]) [0, 1, 2, 3, 4, 5, 6] rfl, hD.sub (ws' := [(d0, oX3 t0 b0 c0 n0 p0 s0 bc cc_), (t0, kcJ cJ 4096 g4), (b0, kcI cI 10 eb), (c0, kcI cI 12 ec), (n0, kcI cI 10 en), (p0, kcI cI 120 ep), (s0, kcI cI 10 g405)]) [0, 1, 2, 3, 4, 5, 6] (by decide) rfl, hS, lv_sub (l' := [(3, .int x411), (2, .int x409), (0, .ref d0), (1, .int a1)]) hl [0, 1, 3, 4] rfl⟩
      · skip
        have k413 : Rg r396 (-1) (-1) := rg_q1 (eqI c399) k397 (rg_lit (n := -1) (by decide)) (by decide)
        refine lv_iconst (v := 0) hx hb dX3_choose_49 (by decide) ?_
        have hP9 := hP.sub (ws' := [(d0, oX3 t0 b0 c0 n0 p0 s0 bc cc_), (t0, kcJ cJ 4096 g4), (b0, kcI cI 10 eb), (c0, kcI cI 12 ec), (n0, kcI cI 10 en), (p0, kcI cI 120 ep), (s0, kcI cI 10 g391)]) [0, 1, 2, 3, 4, 5, 6] rfl
        have hD9 := hD.sub (ws' := [(d0, oX3 t0 b0 c0 n0 p0 s0 bc cc_), (t0, kcJ cJ 4096 g4), (b0, kcI cI 10 eb), (c0, kcI cI 12 ec), (n0, kcI cI 10 en), (p0, kcI cI 120 ep), (s0, kcI cI 10 g391)]) [0, 1, 2, 3, 4, 5, 6] (by decide) rfl
        exact W.zret (v := 0) hx hb hr (by decide) (fun t ht hW => ⟨⟨0, (g4, g391), rfl, ⟨(hF1.trans (kIter_out (kC_eq rfl (kC_eq rfl (kif_f (xF_le c393) (kLet_eq (k398).symm (kif_t (eqI c399) rfl))))))), (Or.inl rfl)⟩, by rw [ht]; exact hP9, va_K.moved hW.alike hK, hD9⟩, hS.F ht⟩) hS.2.2 dX3_choose_50
  · skip
    have k414 : Rg x6 0 1 := rg_e2 (nltI c8) (rg_lit (n := 0) (by decide)) k7 (by decide)
    refine lv_iconst (v := 0) hx hb dX3_choose_20 (by decide) ?_
    have hP9 := hP.sub (ws' := [(d0, oX3 t0 b0 c0 n0 p0 s0 bc cc_), (t0, kcJ cJ 4096 g4), (b0, kcI cI 10 eb), (c0, kcI cI 12 ec), (n0, kcI cI 10 en), (p0, kcI cI 120 ep), (s0, kcI cI 10 g1)]) [0, 1, 2, 3, 4, 5, 6] rfl
    have hD9 := hD.sub (ws' := [(d0, oX3 t0 b0 c0 n0 p0 s0 bc cc_), (t0, kcJ cJ 4096 g4), (b0, kcI cI 10 eb), (c0, kcI cI 12 ec), (n0, kcI cI 10 en), (p0, kcI cI 120 ep), (s0, kcI cI 10 g1)]) [0, 1, 2, 3, 4, 5, 6] (by decide) rfl
    exact W.zret (v := 0) hx hb hr (by decide) (fun t ht hW => ⟨⟨0, (g4, g1), rfl, ⟨(kLet_eq (k2).symm (kC_eq k5 (kLet_eq (ke_cmp ex6) (kif_f (xF_lt c8) rfl)))), (Or.inl rfl)⟩, by rw [ht]; exact hP9, va_K.moved hW.alike hK, hD9⟩, hS.F ht⟩) hS.2.2 dX3_choose_21

def kwX3_canTogether : List Cond := .code yX3_canTogether cX3_canTogether 4 (some .int) :: kG
theorem hdX3_canTogether : yX3_canTogether.cls ≠ "java/lang/invoke/MethodHandle" ∧ yX3_canTogether.cls ≠ "java/lang/invoke/VarHandle" ∧ (parseMethodDescriptor yX3_canTogether.desc).map (fun d => d.parameters.length) = some 1 := by decide +kernel
theorem gX3_canTogether_X10_valueAt_n57 : GoodIn kG (kwX10_valueAt) := gK w8_10 gGG
theorem dX3_canTogether_0 : decode cX3_canTogether 0 = .ok (.iconst 0, 1) := by decide +kernel
theorem dX3_canTogether_1 : decode cX3_canTogether 1 = .ok (.istore_n 2, 1) := by decide +kernel
theorem dX3_canTogether_2 : decode cX3_canTogether 2 = .ok (.iconst 0, 1) := by decide +kernel
theorem dX3_canTogether_3 : decode cX3_canTogether 3 = .ok (.istore_n 3, 1) := by decide +kernel
theorem dX3_canTogether_4 : decode cX3_canTogether 4 = .ok (.iload_n 3, 1) := by decide +kernel
theorem dX3_canTogether_5 : decode cX3_canTogether 5 = .ok (.aload_n 0, 1) := by decide +kernel
theorem dX3_canTogether_6 : decode cX3_canTogether 6 = .ok (.getfield 31, 3) := by decide +kernel
theorem dX3_canTogether_9 : decode cX3_canTogether 9 = .ok (.if_icmp .ge 28, 3) := by decide +kernel
theorem dX3_canTogether_12 : decode cX3_canTogether 12 = .ok (.iload_n 1, 1) := by decide +kernel
theorem dX3_canTogether_13 : decode cX3_canTogether 13 = .ok (.iload_n 3, 1) := by decide +kernel
theorem dX3_canTogether_14 : decode cX3_canTogether 14 = .ok (.ishr, 1) := by decide +kernel
theorem dX3_canTogether_15 : decode cX3_canTogether 15 = .ok (.iconst 1, 1) := by decide +kernel
theorem dX3_canTogether_16 : decode cX3_canTogether 16 = .ok (.iand, 1) := by decide +kernel
theorem dX3_canTogether_17 : decode cX3_canTogether 17 = .ok (.ifCond .eq 14, 3) := by decide +kernel
theorem dX3_canTogether_20 : decode cX3_canTogether 20 = .ok (.iload_n 2, 1) := by decide +kernel
theorem dX3_canTogether_21 : decode cX3_canTogether 21 = .ok (.aload_n 0, 1) := by decide +kernel
theorem dX3_canTogether_22 : decode cX3_canTogether 22 = .ok (.getfield 22, 3) := by decide +kernel
theorem dX3_canTogether_25 : decode cX3_canTogether 25 = .ok (.iload_n 3, 1) := by decide +kernel
theorem dX3_canTogether_26 : decode cX3_canTogether 26 = .ok (.invokestatic 57, 3) := by decide +kernel
theorem dX3_canTogether_29 : decode cX3_canTogether 29 = .ok (.ior, 1) := by decide +kernel
theorem dX3_canTogether_30 : decode cX3_canTogether 30 = .ok (.istore_n 2, 1) := by decide +kernel
theorem dX3_canTogether_31 : decode cX3_canTogether 31 = .ok (.iinc 3 1, 3) := by decide +kernel
theorem dX3_canTogether_34 : decode cX3_canTogether 34 = .ok (.goto (-30), 3) := by decide +kernel
theorem dX3_canTogether_37 : decode cX3_canTogether 37 = .ok (.iload_n 2, 1) := by decide +kernel
theorem dX3_canTogether_38 : decode cX3_canTogether 38 = .ok (.ireturn, 1) := by decide +kernel
set_option maxHeartbeats 4000000 in
set_option maxRecDepth 100000 in
/-- Handing.canTogether -/
theorem z_Hand_canTogether (l : Launch) (D : va_G) (cI cJ cB cC : ClassId) (d0 : Nat) (t0 : Nat) (b0 : Nat) (c0 : Nat) (n0 : Nat) (p0 : Nat) (s0 : Nat) (bc : Int32) (cc_ : Int32) (et : Nat → Int64) (eb : Nat → Int32) (ec : Nat → Int32) (en : Nat → Int32) (ep : Nat → Int32) (es : Nat → Int32) (a1 : Int32) (sz : Nat) (H_bc : Rg bc 0 10) (H_cc_ : Rg cc_ 0 12) : Met l yX3_canTogether kwX3_canTogether ({ frames := 1, cells := 0, slots := 0, locals := 21 } : Room) (kPre D (kT cI cJ cB cC) sz [(d0, oX3 t0 b0 c0 n0 p0 s0 bc cc_), (t0, kcJ cJ 4096 et), (b0, kcI cI 10 eb), (c0, kcI cI 12 ec), (n0, kcI cI 10 en), (p0, kcI cI 120 ep), (s0, kcI cI 10 es)] [.ref d0, .int a1]) (va_Qi (fun (r : Int32) (_ : Unit) => F_z_Hand_canTogether (bc : Int32).toInt (gT en) (a1 : Int32).toInt = ((r : Int32).toInt)) (fun (_ : Unit) (t : State) => kB D (kT cI cJ cB cC) (va_A [(d0, oX3 t0 b0 c0 n0 p0 s0 bc cc_), (t0, kcJ cJ 4096 et), (b0, kcI cI 10 eb), (c0, kcI cI 12 ec), (n0, kcI cI 10 en), (p0, kcI cI 120 ep), (s0, kcI cI 10 es)] sz) [(d0, oX3 t0 b0 c0 n0 p0 s0 bc cc_), (t0, kcJ cJ 4096 et), (b0, kcI cI 10 eb), (c0, kcI cI 12 ec), (n0, kcI cI 10 en), (p0, kcI cI 120 ep), (s0, kcI cI 10 es)] t) (va_A [(d0, oX3 t0 b0 c0 n0 p0 s0 bc cc_), (t0, kcJ cJ 4096 et), (b0, kcI cI 10 eb), (c0, kcI cI 12 ec), (n0, kcI cI 10 en), (p0, kcI cI 120 ep), (s0, kcI cI 10 es)] sz)) 0 0 (va_A [(d0, oX3 t0 b0 c0 n0 p0 s0 bc cc_), (t0, kcJ cJ 4096 et), (b0, kcI cI 10 eb), (c0, kcI cI 12 ec), (n0, kcI cI 10 en), (p0, kcI cI 120 ep), (s0, kcI cI 10 es)] sz) := by
  refine Met.ofW (cc := cX3_canTogether) (maxL := 4) (ret := (some .int)) (by decide) rfl ?_
  intro p e s m args below meth c s₁ B hml hv
  obtain ⟨rfl, hsz, hN, hE, hP, hK, hD0⟩ := hv
  have hx := B.exec
  have hb := B.bytes
  have hr := B.returns
  have hts := fun (w : Cond) (h : w ∈ kG) => atoms_spec (ws := kwX3_canTogether) B.pre w (List.mem_cons_of_mem _ h)
  have hown : s.vm.findClass RX3 = some m.cls := findClass_of_methodNamed B.named
  subst hsz
  have hD := hD0.self (sz := s.heap.size)
  generalize hAe : va_A [(d0, oX3 t0 b0 c0 n0 p0 s0 bc cc_), (t0, kcJ cJ 4096 et), (b0, kcI cI 10 eb), (c0, kcI cI 12 ec), (n0, kcI cI 10 en), (p0, kcI cI 120 ep), (s0, kcI cI 10 es)] s.heap.size = A at hD hE ⊢
  have hA : ∀ q : Nat, s.heap.size ≤ q → A q := fun q h => by rw [← hAe]; exact Or.inr h
  have hl := lv_entry ([.ref d0, .int a1]) (n := 4) (Nat.le_of_ble_eq_true rfl)
  rw [lg_entry_eq]
  generalize (lg_sl ([.ref d0, .int a1]) ++ List.replicate (4 - (lg_sl ([.ref d0, .int a1])).length) Slot.unset).toArray = ls at hl ⊢
  have hl : lv_has ls 4 [(0, .ref d0), (1, .int a1)] := hl
  obtain ⟨H, hH0⟩ : ∃ H, H = s.heap := ⟨_, rfl⟩
  have hS : va_S A s.heap H [] := by rw [hH0]; exact va_S.rf
  have hP : va_P D vwCl [(d0, oX3 t0 b0 c0 n0 p0 s0 bc cc_), (t0, kcJ cJ 4096 et), (b0, kcI cI 10 eb), (c0, kcI cI 12 ec), (n0, kcI cI 10 en), (p0, kcI cI 120 ep), (s0, kcI cI 10 es)] H := by rw [hH0]; exact hP
  refine kHeap hH0 ?_
  clear hH0
  refine lv_iconst (v := 0) hx hb dX3_canTogether_0 (by decide) ?_
  refine lv_istore_n (lv' := [(2, .int 0), (0, .ref d0), (1, .int a1)]) hx hb dX3_canTogether_1 rfl hl (by decide) rfl (fun ls hl => ?_)
  refine lv_iconst (v := 0) hx hb dX3_canTogether_2 (by decide) ?_
  refine lv_istore_n (lv' := [(3, .int 0), (2, .int 0), (0, .ref d0), (1, .int a1)]) hx hb dX3_canTogether_3 rfl hl (by decide) rfl (fun ls hl => ?_)
  refine k_loop (hd := 4) (fun (u : Int32 × Int32) => match u with | (y269, y270) => (10 - (y269).toInt).toNat) (fun (u : Int32 × Int32) (H : Heap) (locs : List Loc) (ls : Array Slot) => match u with | (y269, y270) => (F_z_Hand_canTogether bc.toInt (gT en) a1.toInt = F_z_Hand_canTogether_l1 bc.toInt (gT en) a1.toInt (y269.toInt, y270.toInt)) ∧ Rg y269 0 10 ∧ va_P D vwCl [(d0, oX3 t0 b0 c0 n0 p0 s0 bc cc_), (t0, kcJ cJ 4096 et), (b0, kcI cI 10 eb), (c0, kcI cI 12 ec), (n0, kcI cI 10 en), (p0, kcI cI 120 ep), (s0, kcI cI 10 es)] H ∧ va_D A [(d0, oX3 t0 b0 c0 n0 p0 s0 bc cc_), (t0, kcJ cJ 4096 et), (b0, kcI cI 10 eb), (c0, kcI cI 12 ec), (n0, kcI cI 10 en), (p0, kcI cI 120 ep), (s0, kcI cI 10 es)] ∧ va_S A s.heap H locs ∧ lv_has ls 4 [(3, .int y269), (2, .int y270), (0, .ref d0), (1, .int a1)]) ((0 : Int32), (0 : Int32)) ⟨rfl, (rg_w (rg_lit (n := 0) (by decide)) (by decide)), hP.sub (ws' := [(d0, oX3 t0 b0 c0 n0 p0 s0 bc cc_), (t0, kcJ cJ 4096 et), (b0, kcI cI 10 eb), (c0, kcI cI 12 ec), (n0, kcI cI 10 en), (p0, kcI cI 120 ep), (s0, kcI cI 10 es)]) [0, 1, 2, 3, 4, 5, 6] rfl, hD.sub (ws' := [(d0, oX3 t0 b0 c0 n0 p0 s0 bc cc_), (t0, kcJ cJ 4096 et), (b0, kcI cI 10 eb), (c0, kcI cI 12 ec), (n0, kcI cI 10 en), (p0, kcI cI 120 ep), (s0, kcI cI 10 es)]) [0, 1, 2, 3, 4, 5, 6] (by decide) rfl, hS, lv_sub (l' := [(3, .int 0), (2, .int 0), (0, .ref d0), (1, .int a1)]) hl [0, 1, 2, 3] rfl⟩ (fun u H locs ls hI ih271 => ?_)
  clear hP hD hS hl
  obtain ⟨y269, y270⟩ := u
  obtain ⟨hF1, hy269, hP, hD, hS, hl⟩ := hI
  have hP : va_P D vwCl [(d0, oX3 t0 b0 c0 n0 p0 s0 bc cc_), (t0, kcJ cJ 4096 et), (b0, kcI cI 10 eb), (c0, kcI cI 12 ec), (n0, kcI cI 10 en), (p0, kcI cI 120 ep), (s0, kcI cI 10 es)] H := hP
  have hD : va_D A [(d0, oX3 t0 b0 c0 n0 p0 s0 bc cc_), (t0, kcJ cJ 4096 et), (b0, kcI cI 10 eb), (c0, kcI cI 12 ec), (n0, kcI cI 10 en), (p0, kcI cI 120 ep), (s0, kcI cI 10 es)] := hD
  have hl : lv_has ls 4 [(3, .int y269), (2, .int y270), (0, .ref d0), (1, .int a1)] := hl
  refine lv_iload_n hx hb dX3_canTogether_4 rfl (lv_at hl 0 rfl) ?_
  refine lv_aload_n hx hb dX3_canTogether_5 rfl (lv_at hl 2 rfl) ?_
  refine va_get (D := D) (ci := 3) (v := .int bc) (C := RX3) (T := TX3) (N := 8) hx hb hts iG_X3 hown hK hP 0 rfl rfl 6 (by decide) (hts _ w4_10) (fun _ h9 => h9) rfl dX3_canTogether_6 ?_
  refine lv_icmp_ge (tgt := 37) hx hb dX3_canTogether_9 (by decide) (fun c272 => ?_) (fun c272 => ?_)
  · skip
    refine lv_iload_n hx hb dX3_canTogether_37 rfl (lv_at hl 1 rfl) ?_
    have hP9 := hP.sub (ws' := [(d0, oX3 t0 b0 c0 n0 p0 s0 bc cc_), (t0, kcJ cJ 4096 et), (b0, kcI cI 10 eb), (c0, kcI cI 12 ec), (n0, kcI cI 10 en), (p0, kcI cI 120 ep), (s0, kcI cI 10 es)]) [0, 1, 2, 3, 4, 5, 6] rfl
    have hD9 := hD.sub (ws' := [(d0, oX3 t0 b0 c0 n0 p0 s0 bc cc_), (t0, kcJ cJ 4096 et), (b0, kcI cI 10 eb), (c0, kcI cI 12 ec), (n0, kcI cI 10 en), (p0, kcI cI 120 ep), (s0, kcI cI 10 es)]) [0, 1, 2, 3, 4, 5, 6] (by decide) rfl
    exact W.iret (v := y270) hx hb hr (fun t ht hW => ⟨⟨y270, (), rfl, (hF1.trans (kIter_out (kC_eq rfl (kif_t (leI c272) rfl)))), by rw [ht]; exact hP9, va_K.moved hW.alike hK, hD9⟩, hS.F ht⟩) hS.2.2 dX3_canTogether_38
  · skip
    have k273 : Rg y269 0 9 := rg_l1 (nleI c272) hy269 H_bc (by decide)
    have k274 : Rg bc 1 10 := rg_l2 (nleI c272) hy269 H_bc (by decide)
    refine lv_iload_n hx hb dX3_canTogether_12 rfl (lv_at hl 3 rfl) ?_
    refine lv_iload_n hx hb dX3_canTogether_13 rfl (lv_at hl 0 rfl) ?_
    refine lv_ishr hx hb dX3_canTogether_14 ?_
    refine lv_topi (fun x275 ex275 => ?_)
    refine lv_iconst (v := 1) hx hb dX3_canTogether_15 (by decide) ?_
    refine lv_iand hx hb dX3_canTogether_16 ?_
    refine lv_topi (fun x276 ex276 => ?_)
    have k277 : Rg x276 0 1 := rg_andr ex276 (rg_lit (n := 1) (by decide)) (by decide)
    refine k_join (hd := 31) (cells2 := 0) (slots2 := 0) (fun (y285 : Int32) => []) (fun (y285 : Int32) (H : Heap) (locs : List Loc) (ls : Array Slot) => (F_z_Hand_canTogether_l1_s bc.toInt (gT en) a1.toInt (y269.toInt, y270.toInt) = F_z_Hand_canTogether_j2 y269.toInt y285.toInt) ∧ va_P D vwCl [(d0, oX3 t0 b0 c0 n0 p0 s0 bc cc_), (t0, kcJ cJ 4096 et), (b0, kcI cI 10 eb), (c0, kcI cI 12 ec), (n0, kcI cI 10 en), (p0, kcI cI 120 ep), (s0, kcI cI 10 es)] H ∧ va_D A [(d0, oX3 t0 b0 c0 n0 p0 s0 bc cc_), (t0, kcJ cJ 4096 et), (b0, kcI cI 10 eb), (c0, kcI cI 12 ec), (n0, kcI cI 10 en), (p0, kcI cI 120 ep), (s0, kcI cI 10 es)] ∧ va_S A s.heap H locs ∧ lv_has ls 4 [(3, .int y269), (2, .int y285), (0, .ref d0), (1, .int a1)]) (fun u H locs ls hI => ?_) (fun hJ31 => ?_)
    · skip
      clear hP hD hS hl
      obtain ⟨y285, rfl⟩ : ∃ z, z = u := ⟨_, rfl⟩
      obtain ⟨hF2, hP, hD, hS, hl⟩ := hI
      have hP : va_P D vwCl [(d0, oX3 t0 b0 c0 n0 p0 s0 bc cc_), (t0, kcJ cJ 4096 et), (b0, kcI cI 10 eb), (c0, kcI cI 12 ec), (n0, kcI cI 10 en), (p0, kcI cI 120 ep), (s0, kcI cI 10 es)] H := hP
      have hD : va_D A [(d0, oX3 t0 b0 c0 n0 p0 s0 bc cc_), (t0, kcJ cJ 4096 et), (b0, kcI cI 10 eb), (c0, kcI cI 12 ec), (n0, kcI cI 10 en), (p0, kcI cI 120 ep), (s0, kcI cI 10 es)] := hD
      have hl : lv_has ls 4 [(3, .int y269), (2, .int y285), (0, .ref d0), (1, .int a1)] := hl
      obtain ⟨x286, ex286⟩ : ∃ y : Int32, y = y269 + 1 := ⟨_, rfl⟩
      refine lv_iinc (v := x286) (lv' := [(3, .int x286), (2, .int y285), (0, .ref d0), (1, .int a1)]) hx hb dX3_canTogether_31 hl (k := 0) rfl (by rw [ex286]; rfl) (by decide) rfl (fun ls hl => ?_)
      have k287 : Rg x286 1 10 := rg_add ex286 k273 (rg_lit (n := 1) (by decide)) (by decide)
      refine lv_goto (tgt := 4) hx hb dX3_canTogether_34 (by decide) ?_
      exact ih271 (x286, y285) _ _ _ (by show (10 - (x286).toInt).toNat < (10 - (y269).toInt).toNat; exact mu_up ex286 k273 k287 (by decide)) ⟨(hF1.trans (kIter_go (hF2.trans (kLet_eq (ti_add ex286 k273 (rg_lit (n := 1) (by decide)) (by decide) rfl rfl) rfl)))), (rg_w k287 (by decide)), hP.sub (ws' := [(d0, oX3 t0 b0 c0 n0 p0 s0 bc cc_), (t0, kcJ cJ 4096 et), (b0, kcI cI 10 eb), (c0, kcI cI 12 ec), (n0, kcI cI 10 en), (p0, kcI cI 120 ep), (s0, kcI cI 10 es)]) [0, 1, 2, 3, 4, 5, 6] rfl, hD.sub (ws' := [(d0, oX3 t0 b0 c0 n0 p0 s0 bc cc_), (t0, kcJ cJ 4096 et), (b0, kcI cI 10 eb), (c0, kcI cI 12 ec), (n0, kcI cI 10 en), (p0, kcI cI 120 ep), (s0, kcI cI 10 es)]) [0, 1, 2, 3, 4, 5, 6] (by decide) rfl, hS, lv_sub (l' := [(3, .int x286), (2, .int y285), (0, .ref d0), (1, .int a1)]) hl [0, 1, 2, 3] rfl⟩
    refine lv_if_eq (tgt := 31) hx hb dX3_canTogether_17 (by decide) (fun c288 => ?_) (fun c288 => ?_)
    · skip
      have k289 : Rg x276 0 0 := rg_q1 (eqI c288) k277 (rg_lit (n := 0) (by decide)) (by decide)
      exact hJ31 (y270) _ _ _ ⟨(kC_eq rfl (kif_f (xF_le c272) (kLet_eq (ke_shr ex275) (kLet_eq (ke_and ex276) (kif_t (eqI c288) rfl))))), hP.sub (ws' := [(d0, oX3 t0 b0 c0 n0 p0 s0 bc cc_), (t0, kcJ cJ 4096 et), (b0, kcI cI 10 eb), (c0, kcI cI 12 ec), (n0, kcI cI 10 en), (p0, kcI cI 120 ep), (s0, kcI cI 10 es)]) [0, 1, 2, 3, 4, 5, 6] rfl, hD.sub (ws' := [(d0, oX3 t0 b0 c0 n0 p0 s0 bc cc_), (t0, kcJ cJ 4096 et), (b0, kcI cI 10 eb), (c0, kcI cI 12 ec), (n0, kcI cI 10 en), (p0, kcI cI 120 ep), (s0, kcI cI 10 es)]) [0, 1, 2, 3, 4, 5, 6] (by decide) rfl, hS, lv_sub (l' := [(3, .int y269), (2, .int y270), (0, .ref d0), (1, .int a1)]) hl [0, 1, 2, 3] rfl⟩
    · skip
      have k290 : Rg x276 1 1 := rg_n1 (neI c288) k277 (rg_lit (n := 0) (by decide)) (by decide)
      refine lv_iload_n hx hb dX3_canTogether_20 rfl (lv_at hl 1 rfl) ?_
      refine lv_aload_n hx hb dX3_canTogether_21 rfl (lv_at hl 2 rfl) ?_
      refine va_get (D := D) (ci := 3) (v := .ref n0) (C := RX3) (T := TX3) (N := 8) hx hb hts iG_X3 hown hK hP 0 rfl rfl 3 (by decide) (hts _ w4_7) (fun _ h9 => h9) rfl dX3_canTogether_22 ?_
      refine lv_iload_n hx hb dX3_canTogether_25 rfl (lv_at hl 0 rfl) ?_
      refine kpurei (wc := [(n0, kcI cI 10 en)]) hP hD hS hA [4] rfl (by decide) (fun hPc hDc hFc => va_runSN (As := [.ref n0, .int y269]) (rest := [.int y270]) ⟨hx, hb, hml, hown, hts⟩ (z_valueAt l D cI cJ cB cC n0 10 en y269 H.size) ⟨va_cnB 2 hts gX3_canTogether_X10_valueAt_n57 rfl rfl rfl (nM_19 hN) (hts _ w0_2) hdX10_valueAt ⟨Nat.le_of_ble_eq_true rfl, Nat.le_of_ble_eq_true rfl⟩, hts _ w8_9, trivial⟩ ⟨kBlind, fun U hU hW => ⟨rfl, by rw [hU], hN.warm hW, hE.pass hS hFc hW hU, by rw [hU]; exact hPc, va_K.moved hW.alike hK, hDc⟩⟩ rfl rfl hl.1 rfl (lv_room (Nat.le_of_ble_eq_true rfl)) dX3_canTogether_26 ⟨Nat.le_of_ble_eq_true rfl, Nat.le_of_ble_eq_true rfl⟩) (fun r291 u H locs hw hP hS => ?_)
      have k292 := hw
      refine lv_ior hx hb dX3_canTogether_29 ?_
      refine lv_topi (fun x293 ex293 => ?_)
      refine lv_istore_n (lv' := [(2, .int x293), (3, .int y269), (0, .ref d0), (1, .int a1)]) hx hb dX3_canTogether_30 rfl hl (by decide) rfl (fun ls hl => ?_)
      exact hJ31 (x293) _ _ _ ⟨(kC_eq rfl (kif_f (xF_le c272) (kLet_eq (ke_shr ex275) (kLet_eq (ke_and ex276) (kif_f (neI c288) (kLet_eq (k292).symm (kLet_eq (ke_or ex293) rfl))))))), hP.sub (ws' := [(d0, oX3 t0 b0 c0 n0 p0 s0 bc cc_), (t0, kcJ cJ 4096 et), (b0, kcI cI 10 eb), (c0, kcI cI 12 ec), (n0, kcI cI 10 en), (p0, kcI cI 120 ep), (s0, kcI cI 10 es)]) [0, 1, 2, 3, 4, 5, 6] rfl, hD.sub (ws' := [(d0, oX3 t0 b0 c0 n0 p0 s0 bc cc_), (t0, kcJ cJ 4096 et), (b0, kcI cI 10 eb), (c0, kcI cI 12 ec), (n0, kcI cI 10 en), (p0, kcI cI 120 ep), (s0, kcI cI 10 es)]) [0, 1, 2, 3, 4, 5, 6] (by decide) rfl, hS, lv_sub (l' := [(3, .int y269), (2, .int x293), (0, .ref d0), (1, .int a1)]) hl [1, 0, 2, 3] rfl⟩

def kwX3_menOf : List Cond := .code yX3_menOf cX3_menOf 4 (some .int) :: kG
theorem hdX3_menOf : yX3_menOf.cls ≠ "java/lang/invoke/MethodHandle" ∧ yX3_menOf.cls ≠ "java/lang/invoke/VarHandle" ∧ (parseMethodDescriptor yX3_menOf.desc).map (fun d => d.parameters.length) = some 1 := by decide +kernel
theorem gX3_menOf_X10_valueAt_n57 : GoodIn kG (kwX10_valueAt) := gK w8_10 gGG
theorem dX3_menOf_0 : decode cX3_menOf 0 = .ok (.iconst 0, 1) := by decide +kernel
theorem dX3_menOf_1 : decode cX3_menOf 1 = .ok (.istore_n 2, 1) := by decide +kernel
theorem dX3_menOf_2 : decode cX3_menOf 2 = .ok (.iconst 0, 1) := by decide +kernel
theorem dX3_menOf_3 : decode cX3_menOf 3 = .ok (.istore_n 3, 1) := by decide +kernel
theorem dX3_menOf_4 : decode cX3_menOf 4 = .ok (.iload_n 3, 1) := by decide +kernel
theorem dX3_menOf_5 : decode cX3_menOf 5 = .ok (.aload_n 0, 1) := by decide +kernel
theorem dX3_menOf_6 : decode cX3_menOf 6 = .ok (.getfield 31, 3) := by decide +kernel
theorem dX3_menOf_9 : decode cX3_menOf 9 = .ok (.if_icmp .ge 30, 3) := by decide +kernel
theorem dX3_menOf_12 : decode cX3_menOf 12 = .ok (.iload_n 1, 1) := by decide +kernel
theorem dX3_menOf_13 : decode cX3_menOf 13 = .ok (.iload_n 3, 1) := by decide +kernel
theorem dX3_menOf_14 : decode cX3_menOf 14 = .ok (.ishr, 1) := by decide +kernel
theorem dX3_menOf_15 : decode cX3_menOf 15 = .ok (.iconst 1, 1) := by decide +kernel
theorem dX3_menOf_16 : decode cX3_menOf 16 = .ok (.iand, 1) := by decide +kernel
theorem dX3_menOf_17 : decode cX3_menOf 17 = .ok (.ifCond .eq 16, 3) := by decide +kernel
theorem dX3_menOf_20 : decode cX3_menOf 20 = .ok (.iload_n 2, 1) := by decide +kernel
theorem dX3_menOf_21 : decode cX3_menOf 21 = .ok (.iconst 1, 1) := by decide +kernel
theorem dX3_menOf_22 : decode cX3_menOf 22 = .ok (.aload_n 0, 1) := by decide +kernel
theorem dX3_menOf_23 : decode cX3_menOf 23 = .ok (.getfield 15, 3) := by decide +kernel
theorem dX3_menOf_26 : decode cX3_menOf 26 = .ok (.iload_n 3, 1) := by decide +kernel
theorem dX3_menOf_27 : decode cX3_menOf 27 = .ok (.invokestatic 57, 3) := by decide +kernel
theorem dX3_menOf_30 : decode cX3_menOf 30 = .ok (.ishl, 1) := by decide +kernel
theorem dX3_menOf_31 : decode cX3_menOf 31 = .ok (.ior, 1) := by decide +kernel
theorem dX3_menOf_32 : decode cX3_menOf 32 = .ok (.istore_n 2, 1) := by decide +kernel
theorem dX3_menOf_33 : decode cX3_menOf 33 = .ok (.iinc 3 1, 3) := by decide +kernel
theorem dX3_menOf_36 : decode cX3_menOf 36 = .ok (.goto (-32), 3) := by decide +kernel
theorem dX3_menOf_39 : decode cX3_menOf 39 = .ok (.iload_n 2, 1) := by decide +kernel
theorem dX3_menOf_40 : decode cX3_menOf 40 = .ok (.ireturn, 1) := by decide +kernel
set_option maxHeartbeats 4000000 in
set_option maxRecDepth 100000 in
/-- Handing.menOf -/
theorem z_Hand_menOf (l : Launch) (D : va_G) (cI cJ cB cC : ClassId) (d0 : Nat) (t0 : Nat) (b0 : Nat) (c0 : Nat) (n0 : Nat) (p0 : Nat) (s0 : Nat) (bc : Int32) (cc_ : Int32) (et : Nat → Int64) (eb : Nat → Int32) (ec : Nat → Int32) (en : Nat → Int32) (ep : Nat → Int32) (es : Nat → Int32) (a1 : Int32) (sz : Nat) (H_bc : Rg bc 0 10) (H_cc_ : Rg cc_ 0 12) : Met l yX3_menOf kwX3_menOf ({ frames := 1, cells := 0, slots := 0, locals := 21 } : Room) (kPre D (kT cI cJ cB cC) sz [(d0, oX3 t0 b0 c0 n0 p0 s0 bc cc_), (t0, kcJ cJ 4096 et), (b0, kcI cI 10 eb), (c0, kcI cI 12 ec), (n0, kcI cI 10 en), (p0, kcI cI 120 ep), (s0, kcI cI 10 es)] [.ref d0, .int a1]) (va_Qi (fun (r : Int32) (_ : Unit) => F_z_Hand_menOf (bc : Int32).toInt (gT eb) (a1 : Int32).toInt = ((r : Int32).toInt)) (fun (_ : Unit) (t : State) => kB D (kT cI cJ cB cC) (va_A [(d0, oX3 t0 b0 c0 n0 p0 s0 bc cc_), (t0, kcJ cJ 4096 et), (b0, kcI cI 10 eb), (c0, kcI cI 12 ec), (n0, kcI cI 10 en), (p0, kcI cI 120 ep), (s0, kcI cI 10 es)] sz) [(d0, oX3 t0 b0 c0 n0 p0 s0 bc cc_), (t0, kcJ cJ 4096 et), (b0, kcI cI 10 eb), (c0, kcI cI 12 ec), (n0, kcI cI 10 en), (p0, kcI cI 120 ep), (s0, kcI cI 10 es)] t) (va_A [(d0, oX3 t0 b0 c0 n0 p0 s0 bc cc_), (t0, kcJ cJ 4096 et), (b0, kcI cI 10 eb), (c0, kcI cI 12 ec), (n0, kcI cI 10 en), (p0, kcI cI 120 ep), (s0, kcI cI 10 es)] sz)) 0 0 (va_A [(d0, oX3 t0 b0 c0 n0 p0 s0 bc cc_), (t0, kcJ cJ 4096 et), (b0, kcI cI 10 eb), (c0, kcI cI 12 ec), (n0, kcI cI 10 en), (p0, kcI cI 120 ep), (s0, kcI cI 10 es)] sz) := by
  refine Met.ofW (cc := cX3_menOf) (maxL := 4) (ret := (some .int)) (by decide) rfl ?_
  intro p e s m args below meth c s₁ B hml hv
  obtain ⟨rfl, hsz, hN, hE, hP, hK, hD0⟩ := hv
  have hx := B.exec
  have hb := B.bytes
  have hr := B.returns
  have hts := fun (w : Cond) (h : w ∈ kG) => atoms_spec (ws := kwX3_menOf) B.pre w (List.mem_cons_of_mem _ h)
  have hown : s.vm.findClass RX3 = some m.cls := findClass_of_methodNamed B.named
  subst hsz
  have hD := hD0.self (sz := s.heap.size)
  generalize hAe : va_A [(d0, oX3 t0 b0 c0 n0 p0 s0 bc cc_), (t0, kcJ cJ 4096 et), (b0, kcI cI 10 eb), (c0, kcI cI 12 ec), (n0, kcI cI 10 en), (p0, kcI cI 120 ep), (s0, kcI cI 10 es)] s.heap.size = A at hD hE ⊢
  have hA : ∀ q : Nat, s.heap.size ≤ q → A q := fun q h => by rw [← hAe]; exact Or.inr h
  have hl := lv_entry ([.ref d0, .int a1]) (n := 4) (Nat.le_of_ble_eq_true rfl)
  rw [lg_entry_eq]
  generalize (lg_sl ([.ref d0, .int a1]) ++ List.replicate (4 - (lg_sl ([.ref d0, .int a1])).length) Slot.unset).toArray = ls at hl ⊢
  have hl : lv_has ls 4 [(0, .ref d0), (1, .int a1)] := hl
  obtain ⟨H, hH0⟩ : ∃ H, H = s.heap := ⟨_, rfl⟩
  have hS : va_S A s.heap H [] := by rw [hH0]; exact va_S.rf
  have hP : va_P D vwCl [(d0, oX3 t0 b0 c0 n0 p0 s0 bc cc_), (t0, kcJ cJ 4096 et), (b0, kcI cI 10 eb), (c0, kcI cI 12 ec), (n0, kcI cI 10 en), (p0, kcI cI 120 ep), (s0, kcI cI 10 es)] H := by rw [hH0]; exact hP
  refine kHeap hH0 ?_
  clear hH0
  refine lv_iconst (v := 0) hx hb dX3_menOf_0 (by decide) ?_
  refine lv_istore_n (lv' := [(2, .int 0), (0, .ref d0), (1, .int a1)]) hx hb dX3_menOf_1 rfl hl (by decide) rfl (fun ls hl => ?_)
  refine lv_iconst (v := 0) hx hb dX3_menOf_2 (by decide) ?_
  refine lv_istore_n (lv' := [(3, .int 0), (2, .int 0), (0, .ref d0), (1, .int a1)]) hx hb dX3_menOf_3 rfl hl (by decide) rfl (fun ls hl => ?_)
  refine k_loop (hd := 4) (fun (u : Int32 × Int32) => match u with | (y285, y286) => (10 - (y285).toInt).toNat) (fun (u : Int32 × Int32) (H : Heap) (locs : List Loc) (ls : Array Slot) => match u with | (y285, y286) => (F_z_Hand_menOf bc.toInt (gT eb) a1.toInt = F_z_Hand_menOf_l1 bc.toInt (gT eb) a1.toInt (y285.toInt, y286.toInt)) ∧ Rg y285 0 10 ∧ va_P D vwCl [(d0, oX3 t0 b0 c0 n0 p0 s0 bc cc_), (t0, kcJ cJ 4096 et), (b0, kcI cI 10 eb), (c0, kcI cI 12 ec), (n0, kcI cI 10 en), (p0, kcI cI 120 ep), (s0, kcI cI 10 es)] H ∧ va_D A [(d0, oX3 t0 b0 c0 n0 p0 s0 bc cc_), (t0, kcJ cJ 4096 et), (b0, kcI cI 10 eb), (c0, kcI cI 12 ec), (n0, kcI cI 10 en), (p0, kcI cI 120 ep), (s0, kcI cI 10 es)] ∧ va_S A s.heap H locs ∧ lv_has ls 4 [(3, .int y285), (2, .int y286), (0, .ref d0), (1, .int a1)]) ((0 : Int32), (0 : Int32)) ⟨rfl, (rg_w (rg_lit (n := 0) (by decide)) (by decide)), hP.sub (ws' := [(d0, oX3 t0 b0 c0 n0 p0 s0 bc cc_), (t0, kcJ cJ 4096 et), (b0, kcI cI 10 eb), (c0, kcI cI 12 ec), (n0, kcI cI 10 en), (p0, kcI cI 120 ep), (s0, kcI cI 10 es)]) [0, 1, 2, 3, 4, 5, 6] rfl, hD.sub (ws' := [(d0, oX3 t0 b0 c0 n0 p0 s0 bc cc_), (t0, kcJ cJ 4096 et), (b0, kcI cI 10 eb), (c0, kcI cI 12 ec), (n0, kcI cI 10 en), (p0, kcI cI 120 ep), (s0, kcI cI 10 es)]) [0, 1, 2, 3, 4, 5, 6] (by decide) rfl, hS, lv_sub (l' := [(3, .int 0), (2, .int 0), (0, .ref d0), (1, .int a1)]) hl [0, 1, 2, 3] rfl⟩ (fun u H locs ls hI ih287 => ?_)
  clear hP hD hS hl
  obtain ⟨y285, y286⟩ := u
  obtain ⟨hF1, hy285, hP, hD, hS, hl⟩ := hI
  have hP : va_P D vwCl [(d0, oX3 t0 b0 c0 n0 p0 s0 bc cc_), (t0, kcJ cJ 4096 et), (b0, kcI cI 10 eb), (c0, kcI cI 12 ec), (n0, kcI cI 10 en), (p0, kcI cI 120 ep), (s0, kcI cI 10 es)] H := hP
  have hD : va_D A [(d0, oX3 t0 b0 c0 n0 p0 s0 bc cc_), (t0, kcJ cJ 4096 et), (b0, kcI cI 10 eb), (c0, kcI cI 12 ec), (n0, kcI cI 10 en), (p0, kcI cI 120 ep), (s0, kcI cI 10 es)] := hD
  have hl : lv_has ls 4 [(3, .int y285), (2, .int y286), (0, .ref d0), (1, .int a1)] := hl
  refine lv_iload_n hx hb dX3_menOf_4 rfl (lv_at hl 0 rfl) ?_
  refine lv_aload_n hx hb dX3_menOf_5 rfl (lv_at hl 2 rfl) ?_
  refine va_get (D := D) (ci := 3) (v := .int bc) (C := RX3) (T := TX3) (N := 8) hx hb hts iG_X3 hown hK hP 0 rfl rfl 6 (by decide) (hts _ w4_10) (fun _ h9 => h9) rfl dX3_menOf_6 ?_
  refine lv_icmp_ge (tgt := 39) hx hb dX3_menOf_9 (by decide) (fun c288 => ?_) (fun c288 => ?_)
  · skip
    refine lv_iload_n hx hb dX3_menOf_39 rfl (lv_at hl 1 rfl) ?_
    have hP9 := hP.sub (ws' := [(d0, oX3 t0 b0 c0 n0 p0 s0 bc cc_), (t0, kcJ cJ 4096 et), (b0, kcI cI 10 eb), (c0, kcI cI 12 ec), (n0, kcI cI 10 en), (p0, kcI cI 120 ep), (s0, kcI cI 10 es)]) [0, 1, 2, 3, 4, 5, 6] rfl
    have hD9 := hD.sub (ws' := [(d0, oX3 t0 b0 c0 n0 p0 s0 bc cc_), (t0, kcJ cJ 4096 et), (b0, kcI cI 10 eb), (c0, kcI cI 12 ec), (n0, kcI cI 10 en), (p0, kcI cI 120 ep), (s0, kcI cI 10 es)]) [0, 1, 2, 3, 4, 5, 6] (by decide) rfl
    exact W.iret (v := y286) hx hb hr (fun t ht hW => ⟨⟨y286, (), rfl, (hF1.trans (kIter_out (kC_eq rfl (kif_t (leI c288) rfl)))), by rw [ht]; exact hP9, va_K.moved hW.alike hK, hD9⟩, hS.F ht⟩) hS.2.2 dX3_menOf_40
  · skip
    have k289 : Rg y285 0 9 := rg_l1 (nleI c288) hy285 H_bc (by decide)
    have k290 : Rg bc 1 10 := rg_l2 (nleI c288) hy285 H_bc (by decide)
    refine lv_iload_n hx hb dX3_menOf_12 rfl (lv_at hl 3 rfl) ?_
    refine lv_iload_n hx hb dX3_menOf_13 rfl (lv_at hl 0 rfl) ?_
    refine lv_ishr hx hb dX3_menOf_14 ?_
    refine lv_topi (fun x291 ex291 => ?_)
    refine lv_iconst (v := 1) hx hb dX3_menOf_15 (by decide) ?_
    refine lv_iand hx hb dX3_menOf_16 ?_
    refine lv_topi (fun x292 ex292 => ?_)
    have k293 : Rg x292 0 1 := rg_andr ex292 (rg_lit (n := 1) (by decide)) (by decide)
    refine k_join (hd := 33) (cells2 := 0) (slots2 := 0) (fun (y302 : Int32) => []) (fun (y302 : Int32) (H : Heap) (locs : List Loc) (ls : Array Slot) => (F_z_Hand_menOf_l1_s bc.toInt (gT eb) a1.toInt (y285.toInt, y286.toInt) = F_z_Hand_menOf_j2 y285.toInt y302.toInt) ∧ va_P D vwCl [(d0, oX3 t0 b0 c0 n0 p0 s0 bc cc_), (t0, kcJ cJ 4096 et), (b0, kcI cI 10 eb), (c0, kcI cI 12 ec), (n0, kcI cI 10 en), (p0, kcI cI 120 ep), (s0, kcI cI 10 es)] H ∧ va_D A [(d0, oX3 t0 b0 c0 n0 p0 s0 bc cc_), (t0, kcJ cJ 4096 et), (b0, kcI cI 10 eb), (c0, kcI cI 12 ec), (n0, kcI cI 10 en), (p0, kcI cI 120 ep), (s0, kcI cI 10 es)] ∧ va_S A s.heap H locs ∧ lv_has ls 4 [(3, .int y285), (2, .int y302), (0, .ref d0), (1, .int a1)]) (fun u H locs ls hI => ?_) (fun hJ33 => ?_)
    · skip
      clear hP hD hS hl
      obtain ⟨y302, rfl⟩ : ∃ z, z = u := ⟨_, rfl⟩
      obtain ⟨hF2, hP, hD, hS, hl⟩ := hI
      have hP : va_P D vwCl [(d0, oX3 t0 b0 c0 n0 p0 s0 bc cc_), (t0, kcJ cJ 4096 et), (b0, kcI cI 10 eb), (c0, kcI cI 12 ec), (n0, kcI cI 10 en), (p0, kcI cI 120 ep), (s0, kcI cI 10 es)] H := hP
      have hD : va_D A [(d0, oX3 t0 b0 c0 n0 p0 s0 bc cc_), (t0, kcJ cJ 4096 et), (b0, kcI cI 10 eb), (c0, kcI cI 12 ec), (n0, kcI cI 10 en), (p0, kcI cI 120 ep), (s0, kcI cI 10 es)] := hD
      have hl : lv_has ls 4 [(3, .int y285), (2, .int y302), (0, .ref d0), (1, .int a1)] := hl
      obtain ⟨x303, ex303⟩ : ∃ y : Int32, y = y285 + 1 := ⟨_, rfl⟩
      refine lv_iinc (v := x303) (lv' := [(3, .int x303), (2, .int y302), (0, .ref d0), (1, .int a1)]) hx hb dX3_menOf_33 hl (k := 0) rfl (by rw [ex303]; rfl) (by decide) rfl (fun ls hl => ?_)
      have k304 : Rg x303 1 10 := rg_add ex303 k289 (rg_lit (n := 1) (by decide)) (by decide)
      refine lv_goto (tgt := 4) hx hb dX3_menOf_36 (by decide) ?_
      exact ih287 (x303, y302) _ _ _ (by show (10 - (x303).toInt).toNat < (10 - (y285).toInt).toNat; exact mu_up ex303 k289 k304 (by decide)) ⟨(hF1.trans (kIter_go (hF2.trans (kLet_eq (ti_add ex303 k289 (rg_lit (n := 1) (by decide)) (by decide) rfl rfl) rfl)))), (rg_w k304 (by decide)), hP.sub (ws' := [(d0, oX3 t0 b0 c0 n0 p0 s0 bc cc_), (t0, kcJ cJ 4096 et), (b0, kcI cI 10 eb), (c0, kcI cI 12 ec), (n0, kcI cI 10 en), (p0, kcI cI 120 ep), (s0, kcI cI 10 es)]) [0, 1, 2, 3, 4, 5, 6] rfl, hD.sub (ws' := [(d0, oX3 t0 b0 c0 n0 p0 s0 bc cc_), (t0, kcJ cJ 4096 et), (b0, kcI cI 10 eb), (c0, kcI cI 12 ec), (n0, kcI cI 10 en), (p0, kcI cI 120 ep), (s0, kcI cI 10 es)]) [0, 1, 2, 3, 4, 5, 6] (by decide) rfl, hS, lv_sub (l' := [(3, .int x303), (2, .int y302), (0, .ref d0), (1, .int a1)]) hl [0, 1, 2, 3] rfl⟩
    refine lv_if_eq (tgt := 33) hx hb dX3_menOf_17 (by decide) (fun c305 => ?_) (fun c305 => ?_)
    · skip
      have k306 : Rg x292 0 0 := rg_q1 (eqI c305) k293 (rg_lit (n := 0) (by decide)) (by decide)
      exact hJ33 (y286) _ _ _ ⟨(kC_eq rfl (kif_f (xF_le c288) (kLet_eq (ke_shr ex291) (kLet_eq (ke_and ex292) (kif_t (eqI c305) rfl))))), hP.sub (ws' := [(d0, oX3 t0 b0 c0 n0 p0 s0 bc cc_), (t0, kcJ cJ 4096 et), (b0, kcI cI 10 eb), (c0, kcI cI 12 ec), (n0, kcI cI 10 en), (p0, kcI cI 120 ep), (s0, kcI cI 10 es)]) [0, 1, 2, 3, 4, 5, 6] rfl, hD.sub (ws' := [(d0, oX3 t0 b0 c0 n0 p0 s0 bc cc_), (t0, kcJ cJ 4096 et), (b0, kcI cI 10 eb), (c0, kcI cI 12 ec), (n0, kcI cI 10 en), (p0, kcI cI 120 ep), (s0, kcI cI 10 es)]) [0, 1, 2, 3, 4, 5, 6] (by decide) rfl, hS, lv_sub (l' := [(3, .int y285), (2, .int y286), (0, .ref d0), (1, .int a1)]) hl [0, 1, 2, 3] rfl⟩
    · skip
      have k307 : Rg x292 1 1 := rg_n1 (neI c305) k293 (rg_lit (n := 0) (by decide)) (by decide)
      refine lv_iload_n hx hb dX3_menOf_20 rfl (lv_at hl 1 rfl) ?_
      refine lv_iconst (v := 1) hx hb dX3_menOf_21 (by decide) ?_
      refine lv_aload_n hx hb dX3_menOf_22 rfl (lv_at hl 2 rfl) ?_
      refine va_get (D := D) (ci := 3) (v := .ref b0) (C := RX3) (T := TX3) (N := 8) hx hb hts iG_X3 hown hK hP 0 rfl rfl 1 (by decide) (hts _ w4_5) (fun _ h9 => h9) rfl dX3_menOf_23 ?_
      refine lv_iload_n hx hb dX3_menOf_26 rfl (lv_at hl 0 rfl) ?_
      refine kpurei (wc := [(b0, kcI cI 10 eb)]) hP hD hS hA [2] rfl (by decide) (fun hPc hDc hFc => va_runSN (As := [.ref b0, .int y285]) (rest := [.int 1, .int y286]) ⟨hx, hb, hml, hown, hts⟩ (z_valueAt l D cI cJ cB cC b0 10 eb y285 H.size) ⟨va_cnB 2 hts gX3_menOf_X10_valueAt_n57 rfl rfl rfl (nM_19 hN) (hts _ w0_2) hdX10_valueAt ⟨Nat.le_of_ble_eq_true rfl, Nat.le_of_ble_eq_true rfl⟩, hts _ w8_9, trivial⟩ ⟨kBlind, fun U hU hW => ⟨rfl, by rw [hU], hN.warm hW, hE.pass hS hFc hW hU, by rw [hU]; exact hPc, va_K.moved hW.alike hK, hDc⟩⟩ rfl rfl hl.1 rfl (lv_room (Nat.le_of_ble_eq_true rfl)) dX3_menOf_27 ⟨Nat.le_of_ble_eq_true rfl, Nat.le_of_ble_eq_true rfl⟩) (fun r308 u H locs hw hP hS => ?_)
      have k309 := hw
      refine lv_ishl hx hb dX3_menOf_30 ?_
      refine lv_topi (fun x310 ex310 => ?_)
      refine lv_ior hx hb dX3_menOf_31 ?_
      refine lv_topi (fun x311 ex311 => ?_)
      refine lv_istore_n (lv' := [(2, .int x311), (3, .int y285), (0, .ref d0), (1, .int a1)]) hx hb dX3_menOf_32 rfl hl (by decide) rfl (fun ls hl => ?_)
      exact hJ33 (x311) _ _ _ ⟨(kC_eq rfl (kif_f (xF_le c288) (kLet_eq (ke_shr ex291) (kLet_eq (ke_and ex292) (kif_f (neI c305) (kLet_eq (k309).symm (kLet_eq (ke_shl ex310) (kLet_eq (ke_or ex311) rfl)))))))), hP.sub (ws' := [(d0, oX3 t0 b0 c0 n0 p0 s0 bc cc_), (t0, kcJ cJ 4096 et), (b0, kcI cI 10 eb), (c0, kcI cI 12 ec), (n0, kcI cI 10 en), (p0, kcI cI 120 ep), (s0, kcI cI 10 es)]) [0, 1, 2, 3, 4, 5, 6] rfl, hD.sub (ws' := [(d0, oX3 t0 b0 c0 n0 p0 s0 bc cc_), (t0, kcJ cJ 4096 et), (b0, kcI cI 10 eb), (c0, kcI cI 12 ec), (n0, kcI cI 10 en), (p0, kcI cI 120 ep), (s0, kcI cI 10 es)]) [0, 1, 2, 3, 4, 5, 6] (by decide) rfl, hS, lv_sub (l' := [(3, .int y285), (2, .int x311), (0, .ref d0), (1, .int a1)]) hl [1, 0, 2, 3] rfl⟩

def kwX3_shortMen : List Cond := .code yX3_shortMen cX3_shortMen 5 (some .int) :: kG
theorem hdX3_shortMen : yX3_shortMen.cls ≠ "java/lang/invoke/MethodHandle" ∧ yX3_shortMen.cls ≠ "java/lang/invoke/VarHandle" ∧ (parseMethodDescriptor yX3_shortMen.desc).map (fun d => d.parameters.length) = some 0 := by decide +kernel
theorem gX3_shortMen_J6_bitCount_0f7a4 : GoodIn kG (va_wsS RX3 87 yJ6_bitCount_0f7a4 kwJ6_bitCount_0f7a4) := gK w39_11 (gK w39_12 (gK w39_13 (gK w39_14 gGG)))
theorem gX3_shortMen_X3_canTogether : GoodIn kG (wsV RX3 118 RX3 yX3_canTogether kwX3_canTogether) := gK w43_15 (gK w43_16 (gK w43_17 (gK w1_13 (gK w43_18 gGG))))
theorem gX3_shortMen_X3_menOf : GoodIn kG (wsV RX3 121 RX3 yX3_menOf kwX3_menOf) := gK w43_19 (gK w43_20 (gK w43_21 (gK w1_13 (gK w43_22 gGG))))
theorem dX3_shortMen_0 : decode cX3_shortMen 0 = .ok (.bipush 11, 2) := by decide +kernel
theorem dX3_shortMen_2 : decode cX3_shortMen 2 = .ok (.istore_n 1, 1) := by decide +kernel
theorem dX3_shortMen_3 : decode cX3_shortMen 3 = .ok (.iconst 0, 1) := by decide +kernel
theorem dX3_shortMen_4 : decode cX3_shortMen 4 = .ok (.istore_n 2, 1) := by decide +kernel
theorem dX3_shortMen_5 : decode cX3_shortMen 5 = .ok (.iconst 1, 1) := by decide +kernel
theorem dX3_shortMen_6 : decode cX3_shortMen 6 = .ok (.istore_n 3, 1) := by decide +kernel
theorem dX3_shortMen_7 : decode cX3_shortMen 7 = .ok (.iload_n 3, 1) := by decide +kernel
theorem dX3_shortMen_8 : decode cX3_shortMen 8 = .ok (.iconst 1, 1) := by decide +kernel
theorem dX3_shortMen_9 : decode cX3_shortMen 9 = .ok (.aload_n 0, 1) := by decide +kernel
theorem dX3_shortMen_10 : decode cX3_shortMen 10 = .ok (.getfield 31, 3) := by decide +kernel
theorem dX3_shortMen_13 : decode cX3_shortMen 13 = .ok (.ishl, 1) := by decide +kernel
theorem dX3_shortMen_14 : decode cX3_shortMen 14 = .ok (.if_icmp .ge 39, 3) := by decide +kernel
theorem dX3_shortMen_17 : decode cX3_shortMen 17 = .ok (.iload_n 3, 1) := by decide +kernel
theorem dX3_shortMen_18 : decode cX3_shortMen 18 = .ok (.invokestatic 87, 3) := by decide +kernel
theorem dX3_shortMen_21 : decode cX3_shortMen 21 = .ok (.istore 4, 2) := by decide +kernel
theorem dX3_shortMen_23 : decode cX3_shortMen 23 = .ok (.iload 4, 2) := by decide +kernel
theorem dX3_shortMen_25 : decode cX3_shortMen 25 = .ok (.iload_n 1, 1) := by decide +kernel
theorem dX3_shortMen_26 : decode cX3_shortMen 26 = .ok (.if_icmp .ge 21, 3) := by decide +kernel
theorem dX3_shortMen_29 : decode cX3_shortMen 29 = .ok (.aload_n 0, 1) := by decide +kernel
theorem dX3_shortMen_30 : decode cX3_shortMen 30 = .ok (.iload_n 3, 1) := by decide +kernel
theorem dX3_shortMen_31 : decode cX3_shortMen 31 = .ok (.invokevirtual 118, 3) := by decide +kernel
theorem dX3_shortMen_34 : decode cX3_shortMen 34 = .ok (.invokestatic 87, 3) := by decide +kernel
theorem dX3_shortMen_37 : decode cX3_shortMen 37 = .ok (.iload 4, 2) := by decide +kernel
theorem dX3_shortMen_39 : decode cX3_shortMen 39 = .ok (.if_icmp .ge 8, 3) := by decide +kernel
theorem dX3_shortMen_42 : decode cX3_shortMen 42 = .ok (.iload 4, 2) := by decide +kernel
theorem dX3_shortMen_44 : decode cX3_shortMen 44 = .ok (.istore_n 1, 1) := by decide +kernel
theorem dX3_shortMen_45 : decode cX3_shortMen 45 = .ok (.iload_n 3, 1) := by decide +kernel
theorem dX3_shortMen_46 : decode cX3_shortMen 46 = .ok (.istore_n 2, 1) := by decide +kernel
theorem dX3_shortMen_47 : decode cX3_shortMen 47 = .ok (.iinc 3 1, 3) := by decide +kernel
theorem dX3_shortMen_50 : decode cX3_shortMen 50 = .ok (.goto (-43), 3) := by decide +kernel
theorem dX3_shortMen_53 : decode cX3_shortMen 53 = .ok (.aload_n 0, 1) := by decide +kernel
theorem dX3_shortMen_54 : decode cX3_shortMen 54 = .ok (.iload_n 2, 1) := by decide +kernel
theorem dX3_shortMen_55 : decode cX3_shortMen 55 = .ok (.invokevirtual 121, 3) := by decide +kernel
theorem dX3_shortMen_58 : decode cX3_shortMen 58 = .ok (.ireturn, 1) := by decide +kernel
set_option maxHeartbeats 4000000 in
set_option maxRecDepth 100000 in
/-- Handing.shortMen -/
theorem z_Hand_shortMen (l : Launch) (D : va_G) (cI cJ cB cC : ClassId) (d0 : Nat) (t0 : Nat) (b0 : Nat) (c0 : Nat) (n0 : Nat) (p0 : Nat) (s0 : Nat) (bc : Int32) (cc_ : Int32) (et : Nat → Int64) (eb : Nat → Int32) (ec : Nat → Int32) (en : Nat → Int32) (ep : Nat → Int32) (es : Nat → Int32) (sz : Nat) (H_bc : Rg bc 0 10) (H_cc_ : Rg cc_ 0 12) : Met l yX3_shortMen kwX3_shortMen ({ frames := 2, cells := 0, slots := 0, locals := 44 } : Room) (kPre D (kT cI cJ cB cC) sz [(d0, oX3 t0 b0 c0 n0 p0 s0 bc cc_), (t0, kcJ cJ 4096 et), (b0, kcI cI 10 eb), (c0, kcI cI 12 ec), (n0, kcI cI 10 en), (p0, kcI cI 120 ep), (s0, kcI cI 10 es)] [.ref d0]) (va_Qi (fun (r : Int32) (_ : Unit) => F_z_Hand_shortMen (bc : Int32).toInt (gT eb) (gT en) = ((r : Int32).toInt)) (fun (_ : Unit) (t : State) => kB D (kT cI cJ cB cC) (va_A [(d0, oX3 t0 b0 c0 n0 p0 s0 bc cc_), (t0, kcJ cJ 4096 et), (b0, kcI cI 10 eb), (c0, kcI cI 12 ec), (n0, kcI cI 10 en), (p0, kcI cI 120 ep), (s0, kcI cI 10 es)] sz) [(d0, oX3 t0 b0 c0 n0 p0 s0 bc cc_), (t0, kcJ cJ 4096 et), (b0, kcI cI 10 eb), (c0, kcI cI 12 ec), (n0, kcI cI 10 en), (p0, kcI cI 120 ep), (s0, kcI cI 10 es)] t) (va_A [(d0, oX3 t0 b0 c0 n0 p0 s0 bc cc_), (t0, kcJ cJ 4096 et), (b0, kcI cI 10 eb), (c0, kcI cI 12 ec), (n0, kcI cI 10 en), (p0, kcI cI 120 ep), (s0, kcI cI 10 es)] sz)) 0 0 (va_A [(d0, oX3 t0 b0 c0 n0 p0 s0 bc cc_), (t0, kcJ cJ 4096 et), (b0, kcI cI 10 eb), (c0, kcI cI 12 ec), (n0, kcI cI 10 en), (p0, kcI cI 120 ep), (s0, kcI cI 10 es)] sz) := by
  refine Met.ofW (cc := cX3_shortMen) (maxL := 5) (ret := (some .int)) (by decide) rfl ?_
  intro p e s m args below meth c s₁ B hml hv
  obtain ⟨rfl, hsz, hN, hE, hP, hK, hD0⟩ := hv
  have hx := B.exec
  have hb := B.bytes
  have hr := B.returns
  have hts := fun (w : Cond) (h : w ∈ kG) => atoms_spec (ws := kwX3_shortMen) B.pre w (List.mem_cons_of_mem _ h)
  have hown : s.vm.findClass RX3 = some m.cls := findClass_of_methodNamed B.named
  subst hsz
  have hD := hD0.self (sz := s.heap.size)
  generalize hAe : va_A [(d0, oX3 t0 b0 c0 n0 p0 s0 bc cc_), (t0, kcJ cJ 4096 et), (b0, kcI cI 10 eb), (c0, kcI cI 12 ec), (n0, kcI cI 10 en), (p0, kcI cI 120 ep), (s0, kcI cI 10 es)] s.heap.size = A at hD hE ⊢
  have hA : ∀ q : Nat, s.heap.size ≤ q → A q := fun q h => by rw [← hAe]; exact Or.inr h
  have hl := lv_entry ([.ref d0]) (n := 5) (Nat.le_of_ble_eq_true rfl)
  rw [lg_entry_eq]
  generalize (lg_sl ([.ref d0]) ++ List.replicate (5 - (lg_sl ([.ref d0])).length) Slot.unset).toArray = ls at hl ⊢
  have hl : lv_has ls 5 [(0, .ref d0)] := hl
  obtain ⟨H, hH0⟩ : ∃ H, H = s.heap := ⟨_, rfl⟩
  have hS : va_S A s.heap H [] := by rw [hH0]; exact va_S.rf
  have hP : va_P D vwCl [(d0, oX3 t0 b0 c0 n0 p0 s0 bc cc_), (t0, kcJ cJ 4096 et), (b0, kcI cI 10 eb), (c0, kcI cI 12 ec), (n0, kcI cI 10 en), (p0, kcI cI 120 ep), (s0, kcI cI 10 es)] H := by rw [hH0]; exact hP
  refine kHeap hH0 ?_
  clear hH0
  refine lv_bipush (v := 11) hx hb dX3_shortMen_0 (by decide) ?_
  refine lv_istore_n (lv' := [(1, .int 11), (0, .ref d0)]) hx hb dX3_shortMen_2 rfl hl (by decide) rfl (fun ls hl => ?_)
  refine lv_iconst (v := 0) hx hb dX3_shortMen_3 (by decide) ?_
  refine lv_istore_n (lv' := [(2, .int 0), (1, .int 11), (0, .ref d0)]) hx hb dX3_shortMen_4 rfl hl (by decide) rfl (fun ls hl => ?_)
  refine lv_iconst (v := 1) hx hb dX3_shortMen_5 (by decide) ?_
  refine lv_istore_n (lv' := [(3, .int 1), (2, .int 0), (1, .int 11), (0, .ref d0)]) hx hb dX3_shortMen_6 rfl hl (by decide) rfl (fun ls hl => ?_)
  refine k_loop (hd := 7) (fun (u : Int32 × Int32 × Int32) => match u with | (y412, y413, y414) => (1024 - (y412).toInt).toNat) (fun (u : Int32 × Int32 × Int32) (H : Heap) (locs : List Loc) (ls : Array Slot) => match u with | (y412, y413, y414) => (F_z_Hand_shortMen bc.toInt (gT eb) (gT en) = F_z_Hand_shortMen_l1 bc.toInt (gT eb) (gT en) (y412.toInt, y413.toInt, y414.toInt)) ∧ Rg y412 1 1024 ∧ Rg y413 0 1023 ∧ Rg y414 1 11 ∧ va_P D vwCl [(d0, oX3 t0 b0 c0 n0 p0 s0 bc cc_), (t0, kcJ cJ 4096 et), (b0, kcI cI 10 eb), (c0, kcI cI 12 ec), (n0, kcI cI 10 en), (p0, kcI cI 120 ep), (s0, kcI cI 10 es)] H ∧ va_D A [(d0, oX3 t0 b0 c0 n0 p0 s0 bc cc_), (t0, kcJ cJ 4096 et), (b0, kcI cI 10 eb), (c0, kcI cI 12 ec), (n0, kcI cI 10 en), (p0, kcI cI 120 ep), (s0, kcI cI 10 es)] ∧ va_S A s.heap H locs ∧ lv_has ls 5 [(3, .int y412), (2, .int y413), (1, .int y414), (0, .ref d0)]) ((1 : Int32), (0 : Int32), (11 : Int32)) ⟨rfl, (rg_w (rg_lit (n := 1) (by decide)) (by decide)), (rg_w (rg_lit (n := 0) (by decide)) (by decide)), (rg_w (rg_lit (n := 11) (by decide)) (by decide)), hP.sub (ws' := [(d0, oX3 t0 b0 c0 n0 p0 s0 bc cc_), (t0, kcJ cJ 4096 et), (b0, kcI cI 10 eb), (c0, kcI cI 12 ec), (n0, kcI cI 10 en), (p0, kcI cI 120 ep), (s0, kcI cI 10 es)]) [0, 1, 2, 3, 4, 5, 6] rfl, hD.sub (ws' := [(d0, oX3 t0 b0 c0 n0 p0 s0 bc cc_), (t0, kcJ cJ 4096 et), (b0, kcI cI 10 eb), (c0, kcI cI 12 ec), (n0, kcI cI 10 en), (p0, kcI cI 120 ep), (s0, kcI cI 10 es)]) [0, 1, 2, 3, 4, 5, 6] (by decide) rfl, hS, lv_sub (l' := [(3, .int 1), (2, .int 0), (1, .int 11), (0, .ref d0)]) hl [0, 1, 2, 3] rfl⟩ (fun u H locs ls hI ih415 => ?_)
  clear hP hD hS hl
  obtain ⟨y412, y413, y414⟩ := u
  obtain ⟨hF1, hy412, hy413, hy414, hP, hD, hS, hl⟩ := hI
  have hP : va_P D vwCl [(d0, oX3 t0 b0 c0 n0 p0 s0 bc cc_), (t0, kcJ cJ 4096 et), (b0, kcI cI 10 eb), (c0, kcI cI 12 ec), (n0, kcI cI 10 en), (p0, kcI cI 120 ep), (s0, kcI cI 10 es)] H := hP
  have hD : va_D A [(d0, oX3 t0 b0 c0 n0 p0 s0 bc cc_), (t0, kcJ cJ 4096 et), (b0, kcI cI 10 eb), (c0, kcI cI 12 ec), (n0, kcI cI 10 en), (p0, kcI cI 120 ep), (s0, kcI cI 10 es)] := hD
  have hl : lv_has ls 5 [(3, .int y412), (2, .int y413), (1, .int y414), (0, .ref d0)] := hl
  refine lv_iload_n hx hb dX3_shortMen_7 rfl (lv_at hl 0 rfl) ?_
  refine lv_iconst (v := 1) hx hb dX3_shortMen_8 (by decide) ?_
  refine lv_aload_n hx hb dX3_shortMen_9 rfl (lv_at hl 3 rfl) ?_
  refine va_get (D := D) (ci := 3) (v := .int bc) (C := RX3) (T := TX3) (N := 8) hx hb hts iG_X3 hown hK hP 0 rfl rfl 6 (by decide) (hts _ w4_10) (fun _ h9 => h9) rfl dX3_shortMen_10 ?_
  refine lv_ishl hx hb dX3_shortMen_13 ?_
  refine lv_topi (fun x416 ex416 => ?_)
  have k417 : Rg x416 1 1024 := rg_shl1 10 ex416 H_bc (by decide)
  refine lv_icmp_ge (tgt := 53) hx hb dX3_shortMen_14 (by decide) (fun c418 => ?_) (fun c418 => ?_)
  · skip
    refine lv_aload_n hx hb dX3_shortMen_53 rfl (lv_at hl 3 rfl) ?_
    refine lv_iload_n hx hb dX3_shortMen_54 rfl (lv_at hl 1 rfl) ?_
    refine kpurei (wc := [(d0, oX3 t0 b0 c0 n0 p0 s0 bc cc_), (t0, kcJ cJ 4096 et), (b0, kcI cI 10 eb), (c0, kcI cI 12 ec), (n0, kcI cI 10 en), (p0, kcI cI 120 ep), (s0, kcI cI 10 es)]) hP hD hS hA [0, 1, 2, 3, 4, 5, 6] rfl (by decide) (fun hPc hDc hFc => va_runV (As := [.int y413]) (rest := []) ⟨hx, hb, hml, hown, hts⟩ (z_Hand_menOf l D cI cJ cB cC d0 t0 b0 c0 n0 p0 s0 bc cc_ et eb ec en ep es y413 H.size H_bc H_cc_) (cwV 1 hts gX3_shortMen_X3_menOf rfl rfl rfl ⟨rfl, hdX3_menOf⟩ ⟨Nat.le_of_ble_eq_true rfl, Nat.le_of_ble_eq_true rfl⟩) ⟨kBlind, va_recv hK hPc (ci := 3) (q0 := 0) rfl rfl, fun U hU hW => ⟨rfl, by rw [hU], hN.warm hW, hE.pass hS hFc hW hU, by rw [hU]; exact hPc, va_K.moved hW.alike hK, hDc⟩⟩ rfl rfl hl.1 rfl (lv_room (Nat.le_of_ble_eq_true rfl)) dX3_shortMen_55 ⟨Nat.le_of_ble_eq_true rfl, Nat.le_of_ble_eq_true rfl⟩) (fun r419 u H locs hw hP hS => ?_)
    have k420 := hw
    have hP9 := hP.sub (ws' := [(d0, oX3 t0 b0 c0 n0 p0 s0 bc cc_), (t0, kcJ cJ 4096 et), (b0, kcI cI 10 eb), (c0, kcI cI 12 ec), (n0, kcI cI 10 en), (p0, kcI cI 120 ep), (s0, kcI cI 10 es)]) [0, 1, 2, 3, 4, 5, 6] rfl
    have hD9 := hD.sub (ws' := [(d0, oX3 t0 b0 c0 n0 p0 s0 bc cc_), (t0, kcJ cJ 4096 et), (b0, kcI cI 10 eb), (c0, kcI cI 12 ec), (n0, kcI cI 10 en), (p0, kcI cI 120 ep), (s0, kcI cI 10 es)]) [0, 1, 2, 3, 4, 5, 6] (by decide) rfl
    exact W.iret (v := r419) hx hb hr (fun t ht hW => ⟨⟨r419, (), rfl, (hF1.trans (kIter_out (kC_eq rfl (kC_eq rfl (kLet_eq (ke_shl ex416) (kif_t (leI c418) (kLet_eq (k420).symm rfl))))))), by rw [ht]; exact hP9, va_K.moved hW.alike hK, hD9⟩, hS.F ht⟩) hS.2.2 dX3_shortMen_58
  · skip
    have k421 : Rg y412 1 1023 := rg_l1 (nleI c418) hy412 k417 (by decide)
    have k422 : Rg x416 2 1024 := rg_l2 (nleI c418) hy412 k417 (by decide)
    refine lv_iload_n hx hb dX3_shortMen_17 rfl (lv_at hl 0 rfl) ?_
    refine kpurei (wc := []) hP hD hS hA [] rfl (by decide) (fun hPc hDc hFc => va_runS (As := [.int y412]) (rest := []) ⟨hx, hb, hml, hown, hts⟩ (z_bitCount l D cI cJ cB cC y412 H.size) (va_cwS 1 hts gX3_shortMen_J6_bitCount_0f7a4 rfl rfl rfl hdJ6_bitCount_0f7a4 ⟨Nat.le_of_ble_eq_true rfl, Nat.le_of_ble_eq_true rfl⟩) ⟨kBlind, fun U hU hW => ⟨rfl, by rw [hU], hN.warm hW, hE.pass hS hFc hW hU, by rw [hU]; exact hPc, va_K.moved hW.alike hK, hDc⟩⟩ rfl rfl hl.1 rfl (lv_room (Nat.le_of_ble_eq_true rfl)) dX3_shortMen_18 ⟨Nat.le_of_ble_eq_true rfl, Nat.le_of_ble_eq_true rfl⟩) (fun r423 u H locs hw hP hS => ?_)
    obtain ⟨k424, k425⟩ := hw
    refine lv_istore (lv' := [(4, .int r423), (3, .int y412), (2, .int y413), (1, .int y414), (0, .ref d0)]) hx hb dX3_shortMen_21 hl (by decide) rfl (fun ls hl => ?_)
    refine lv_iload hx hb dX3_shortMen_23 (lv_at hl 0 rfl) ?_
    refine lv_iload_n hx hb dX3_shortMen_25 rfl (lv_at hl 3 rfl) ?_
    refine k_join (hd := 47) (cells2 := 0) (slots2 := 0) (fun (u : Int32 × Int32) => match u with | (y439, y440) => []) (fun (u : Int32 × Int32) (H : Heap) (locs : List Loc) (ls : Array Slot) => match u with | (y439, y440) => (F_z_Hand_shortMen_l1_s bc.toInt (gT eb) (gT en) (y412.toInt, y413.toInt, y414.toInt) = F_z_Hand_shortMen_j2 y412.toInt y439.toInt y440.toInt) ∧ Rg y439 0 1023 ∧ Rg y440 1 11 ∧ va_P D vwCl [(d0, oX3 t0 b0 c0 n0 p0 s0 bc cc_), (t0, kcJ cJ 4096 et), (b0, kcI cI 10 eb), (c0, kcI cI 12 ec), (n0, kcI cI 10 en), (p0, kcI cI 120 ep), (s0, kcI cI 10 es)] H ∧ va_D A [(d0, oX3 t0 b0 c0 n0 p0 s0 bc cc_), (t0, kcJ cJ 4096 et), (b0, kcI cI 10 eb), (c0, kcI cI 12 ec), (n0, kcI cI 10 en), (p0, kcI cI 120 ep), (s0, kcI cI 10 es)] ∧ va_S A s.heap H locs ∧ lv_has ls 5 [(4, .int r423), (3, .int y412), (2, .int y439), (1, .int y440), (0, .ref d0)]) (fun u H locs ls hI => ?_) (fun hJ47 => ?_)
    · skip
      clear hP hD hS hl
      obtain ⟨y439, y440⟩ := u
      obtain ⟨hF2, hy439, hy440, hP, hD, hS, hl⟩ := hI
      have hP : va_P D vwCl [(d0, oX3 t0 b0 c0 n0 p0 s0 bc cc_), (t0, kcJ cJ 4096 et), (b0, kcI cI 10 eb), (c0, kcI cI 12 ec), (n0, kcI cI 10 en), (p0, kcI cI 120 ep), (s0, kcI cI 10 es)] H := hP
      have hD : va_D A [(d0, oX3 t0 b0 c0 n0 p0 s0 bc cc_), (t0, kcJ cJ 4096 et), (b0, kcI cI 10 eb), (c0, kcI cI 12 ec), (n0, kcI cI 10 en), (p0, kcI cI 120 ep), (s0, kcI cI 10 es)] := hD
      have hl : lv_has ls 5 [(4, .int r423), (3, .int y412), (2, .int y439), (1, .int y440), (0, .ref d0)] := hl
      obtain ⟨x441, ex441⟩ : ∃ y : Int32, y = y412 + 1 := ⟨_, rfl⟩
      refine lv_iinc (v := x441) (lv' := [(3, .int x441), (4, .int r423), (2, .int y439), (1, .int y440), (0, .ref d0)]) hx hb dX3_shortMen_47 hl (k := 1) rfl (by rw [ex441]; rfl) (by decide) rfl (fun ls hl => ?_)
      have k442 : Rg x441 2 1024 := rg_add ex441 k421 (rg_lit (n := 1) (by decide)) (by decide)
      refine lv_goto (tgt := 7) hx hb dX3_shortMen_50 (by decide) ?_
      exact ih415 (x441, y439, y440) _ _ _ (by show (1024 - (x441).toInt).toNat < (1024 - (y412).toInt).toNat; exact mu_up ex441 k421 k442 (by decide)) ⟨(hF1.trans (kIter_go (hF2.trans (kLet_eq (ti_add ex441 k421 (rg_lit (n := 1) (by decide)) (by decide) rfl rfl) rfl)))), (rg_w k442 (by decide)), hy439, hy440, hP.sub (ws' := [(d0, oX3 t0 b0 c0 n0 p0 s0 bc cc_), (t0, kcJ cJ 4096 et), (b0, kcI cI 10 eb), (c0, kcI cI 12 ec), (n0, kcI cI 10 en), (p0, kcI cI 120 ep), (s0, kcI cI 10 es)]) [0, 1, 2, 3, 4, 5, 6] rfl, hD.sub (ws' := [(d0, oX3 t0 b0 c0 n0 p0 s0 bc cc_), (t0, kcJ cJ 4096 et), (b0, kcI cI 10 eb), (c0, kcI cI 12 ec), (n0, kcI cI 10 en), (p0, kcI cI 120 ep), (s0, kcI cI 10 es)]) [0, 1, 2, 3, 4, 5, 6] (by decide) rfl, hS, lv_sub (l' := [(3, .int x441), (2, .int y439), (1, .int y440), (0, .ref d0)]) hl [0, 2, 3, 4] rfl⟩
    refine lv_icmp_ge (tgt := 47) hx hb dX3_shortMen_26 (by decide) (fun c443 => ?_) (fun c443 => ?_)
    · skip
      have k444 : Rg r423 1 63 := rg_e2 (leI c443) hy414 k424 (by decide)
      exact hJ47 (y413, y414) _ _ _ ⟨(kC_eq rfl (kC_eq rfl (kLet_eq (ke_shl ex416) (kif_f (xF_le c418) (kLet_eq (k425).symm (kif_t (leI c443) rfl)))))), hy413, hy414, hP.sub (ws' := [(d0, oX3 t0 b0 c0 n0 p0 s0 bc cc_), (t0, kcJ cJ 4096 et), (b0, kcI cI 10 eb), (c0, kcI cI 12 ec), (n0, kcI cI 10 en), (p0, kcI cI 120 ep), (s0, kcI cI 10 es)]) [0, 1, 2, 3, 4, 5, 6] rfl, hD.sub (ws' := [(d0, oX3 t0 b0 c0 n0 p0 s0 bc cc_), (t0, kcJ cJ 4096 et), (b0, kcI cI 10 eb), (c0, kcI cI 12 ec), (n0, kcI cI 10 en), (p0, kcI cI 120 ep), (s0, kcI cI 10 es)]) [0, 1, 2, 3, 4, 5, 6] (by decide) rfl, hS, lv_sub (l' := [(4, .int r423), (3, .int y412), (2, .int y413), (1, .int y414), (0, .ref d0)]) hl [0, 1, 2, 3, 4] rfl⟩
    · skip
      have k445 : Rg r423 0 10 := rg_l1 (nleI c443) k424 hy414 (by decide)
      refine lv_aload_n hx hb dX3_shortMen_29 rfl (lv_at hl 4 rfl) ?_
      refine lv_iload_n hx hb dX3_shortMen_30 rfl (lv_at hl 1 rfl) ?_
      refine kpurei (wc := [(d0, oX3 t0 b0 c0 n0 p0 s0 bc cc_), (t0, kcJ cJ 4096 et), (b0, kcI cI 10 eb), (c0, kcI cI 12 ec), (n0, kcI cI 10 en), (p0, kcI cI 120 ep), (s0, kcI cI 10 es)]) hP hD hS hA [0, 1, 2, 3, 4, 5, 6] rfl (by decide) (fun hPc hDc hFc => va_runV (As := [.int y412]) (rest := []) ⟨hx, hb, hml, hown, hts⟩ (z_Hand_canTogether l D cI cJ cB cC d0 t0 b0 c0 n0 p0 s0 bc cc_ et eb ec en ep es y412 H.size H_bc H_cc_) (cwV 1 hts gX3_shortMen_X3_canTogether rfl rfl rfl ⟨rfl, hdX3_canTogether⟩ ⟨Nat.le_of_ble_eq_true rfl, Nat.le_of_ble_eq_true rfl⟩) ⟨kBlind, va_recv hK hPc (ci := 3) (q0 := 0) rfl rfl, fun U hU hW => ⟨rfl, by rw [hU], hN.warm hW, hE.pass hS hFc hW hU, by rw [hU]; exact hPc, va_K.moved hW.alike hK, hDc⟩⟩ rfl rfl hl.1 rfl (lv_room (Nat.le_of_ble_eq_true rfl)) dX3_shortMen_31 ⟨Nat.le_of_ble_eq_true rfl, Nat.le_of_ble_eq_true rfl⟩) (fun r446 u H locs hw hP hS => ?_)
      have k447 := hw
      refine kpurei (wc := []) hP hD hS hA [] rfl (by decide) (fun hPc hDc hFc => va_runS (As := [.int r446]) (rest := []) ⟨hx, hb, hml, hown, hts⟩ (z_bitCount l D cI cJ cB cC r446 H.size) (va_cwS 1 hts gX3_shortMen_J6_bitCount_0f7a4 rfl rfl rfl hdJ6_bitCount_0f7a4 ⟨Nat.le_of_ble_eq_true rfl, Nat.le_of_ble_eq_true rfl⟩) ⟨kBlind, fun U hU hW => ⟨rfl, by rw [hU], hN.warm hW, hE.pass hS hFc hW hU, by rw [hU]; exact hPc, va_K.moved hW.alike hK, hDc⟩⟩ rfl rfl hl.1 rfl (lv_room (Nat.le_of_ble_eq_true rfl)) dX3_shortMen_34 ⟨Nat.le_of_ble_eq_true rfl, Nat.le_of_ble_eq_true rfl⟩) (fun r448 u H locs hw hP hS => ?_)
      obtain ⟨k449, k450⟩ := hw
      refine lv_iload hx hb dX3_shortMen_37 (lv_at hl 0 rfl) ?_
      refine lv_icmp_ge (tgt := 47) hx hb dX3_shortMen_39 (by decide) (fun c451 => ?_) (fun c451 => ?_)
      · skip
        exact hJ47 (y413, y414) _ _ _ ⟨(kC_eq rfl (kC_eq rfl (kLet_eq (ke_shl ex416) (kif_f (xF_le c418) (kLet_eq (k425).symm (kif_f (xF_le c443) (kLet_eq (k447).symm (kLet_eq (k450).symm (kif_t (leI c451) rfl))))))))), hy413, hy414, hP.sub (ws' := [(d0, oX3 t0 b0 c0 n0 p0 s0 bc cc_), (t0, kcJ cJ 4096 et), (b0, kcI cI 10 eb), (c0, kcI cI 12 ec), (n0, kcI cI 10 en), (p0, kcI cI 120 ep), (s0, kcI cI 10 es)]) [0, 1, 2, 3, 4, 5, 6] rfl, hD.sub (ws' := [(d0, oX3 t0 b0 c0 n0 p0 s0 bc cc_), (t0, kcJ cJ 4096 et), (b0, kcI cI 10 eb), (c0, kcI cI 12 ec), (n0, kcI cI 10 en), (p0, kcI cI 120 ep), (s0, kcI cI 10 es)]) [0, 1, 2, 3, 4, 5, 6] (by decide) rfl, hS, lv_sub (l' := [(4, .int r423), (3, .int y412), (2, .int y413), (1, .int y414), (0, .ref d0)]) hl [0, 1, 2, 3, 4] rfl⟩
      · skip
        have k452 : Rg r448 0 9 := rg_l1 (nleI c451) k449 k445 (by decide)
        have k453 : Rg r423 1 10 := rg_l2 (nleI c451) k449 k445 (by decide)
        refine lv_iload hx hb dX3_shortMen_42 (lv_at hl 0 rfl) ?_
        refine lv_istore_n (lv' := [(1, .int r423), (4, .int r423), (3, .int y412), (2, .int y413), (0, .ref d0)]) hx hb dX3_shortMen_44 rfl hl (by decide) rfl (fun ls hl => ?_)
        refine lv_iload_n hx hb dX3_shortMen_45 rfl (lv_at hl 2 rfl) ?_
        refine lv_istore_n (lv' := [(2, .int y412), (1, .int r423), (4, .int r423), (3, .int y412), (0, .ref d0)]) hx hb dX3_shortMen_46 rfl hl (by decide) rfl (fun ls hl => ?_)
        exact hJ47 (y412, r423) _ _ _ ⟨(kC_eq rfl (kC_eq rfl (kLet_eq (ke_shl ex416) (kif_f (xF_le c418) (kLet_eq (k425).symm (kif_f (xF_le c443) (kLet_eq (k447).symm (kLet_eq (k450).symm (kif_f (xF_le c451) rfl))))))))), (rg_w k421 (by decide)), (rg_w k453 (by decide)), hP.sub (ws' := [(d0, oX3 t0 b0 c0 n0 p0 s0 bc cc_), (t0, kcJ cJ 4096 et), (b0, kcI cI 10 eb), (c0, kcI cI 12 ec), (n0, kcI cI 10 en), (p0, kcI cI 120 ep), (s0, kcI cI 10 es)]) [0, 1, 2, 3, 4, 5, 6] rfl, hD.sub (ws' := [(d0, oX3 t0 b0 c0 n0 p0 s0 bc cc_), (t0, kcJ cJ 4096 et), (b0, kcI cI 10 eb), (c0, kcI cI 12 ec), (n0, kcI cI 10 en), (p0, kcI cI 120 ep), (s0, kcI cI 10 es)]) [0, 1, 2, 3, 4, 5, 6] (by decide) rfl, hS, lv_sub (l' := [(4, .int r423), (3, .int y412), (2, .int y412), (1, .int r423), (0, .ref d0)]) hl [2, 3, 0, 1, 4] rfl⟩

