def kwX10_tellsShirtsOnce : List Cond := .code yX10_tellsShirtsOnce cX10_tellsShirtsOnce 5 (some .boolean) :: kG
theorem hdX10_tellsShirtsOnce : yX10_tellsShirtsOnce.cls ≠ "java/lang/invoke/MethodHandle" ∧ yX10_tellsShirtsOnce.cls ≠ "java/lang/invoke/VarHandle" ∧ (parseMethodDescriptor yX10_tellsShirtsOnce.desc).map (fun d => d.parameters.length) = some 1 := by decide +kernel
theorem gX10_tellsShirtsOnce_X0_isShirt_n157 : GoodIn kG (kwX0_isShirt) := gK w15_6 gGG
theorem gX10_tellsShirtsOnce_X10_shirtAt : GoodIn kG (wsV RX10 356 RX10 yX10_shirtAt kwX10_shirtAt) := gK w36_11 (gK w36_12 (gK w36_13 (gK w0_2 (gK w36_14 gGG))))
theorem dX10_tellsShirtsOnce_0 : decode cX10_tellsShirtsOnce 0 = .ok (.iconst 0, 1) := by decide +kernel
theorem dX10_tellsShirtsOnce_1 : decode cX10_tellsShirtsOnce 1 = .ok (.istore_n 2, 1) := by decide +kernel
theorem dX10_tellsShirtsOnce_2 : decode cX10_tellsShirtsOnce 2 = .ok (.iconst 0, 1) := by decide +kernel
theorem dX10_tellsShirtsOnce_3 : decode cX10_tellsShirtsOnce 3 = .ok (.istore_n 3, 1) := by decide +kernel
theorem dX10_tellsShirtsOnce_4 : decode cX10_tellsShirtsOnce 4 = .ok (.iload_n 3, 1) := by decide +kernel
theorem dX10_tellsShirtsOnce_5 : decode cX10_tellsShirtsOnce 5 = .ok (.iload_n 1, 1) := by decide +kernel
theorem dX10_tellsShirtsOnce_6 : decode cX10_tellsShirtsOnce 6 = .ok (.if_icmp .ge 46, 3) := by decide +kernel
theorem dX10_tellsShirtsOnce_9 : decode cX10_tellsShirtsOnce 9 = .ok (.aload_n 0, 1) := by decide +kernel
theorem dX10_tellsShirtsOnce_10 : decode cX10_tellsShirtsOnce 10 = .ok (.iload_n 3, 1) := by decide +kernel
theorem dX10_tellsShirtsOnce_11 : decode cX10_tellsShirtsOnce 11 = .ok (.invokevirtual 356, 3) := by decide +kernel
theorem dX10_tellsShirtsOnce_14 : decode cX10_tellsShirtsOnce 14 = .ok (.istore 4, 2) := by decide +kernel
theorem dX10_tellsShirtsOnce_16 : decode cX10_tellsShirtsOnce 16 = .ok (.aload_n 0, 1) := by decide +kernel
theorem dX10_tellsShirtsOnce_17 : decode cX10_tellsShirtsOnce 17 = .ok (.getfield 23, 3) := by decide +kernel
theorem dX10_tellsShirtsOnce_20 : decode cX10_tellsShirtsOnce 20 = .ok (.iload 4, 2) := by decide +kernel
theorem dX10_tellsShirtsOnce_22 : decode cX10_tellsShirtsOnce 22 = .ok (.invokevirtual 157, 3) := by decide +kernel
theorem dX10_tellsShirtsOnce_25 : decode cX10_tellsShirtsOnce 25 = .ok (.ifCond .eq 12, 3) := by decide +kernel
theorem dX10_tellsShirtsOnce_28 : decode cX10_tellsShirtsOnce 28 = .ok (.iload_n 2, 1) := by decide +kernel
theorem dX10_tellsShirtsOnce_29 : decode cX10_tellsShirtsOnce 29 = .ok (.iload 4, 2) := by decide +kernel
theorem dX10_tellsShirtsOnce_31 : decode cX10_tellsShirtsOnce 31 = .ok (.ishr, 1) := by decide +kernel
theorem dX10_tellsShirtsOnce_32 : decode cX10_tellsShirtsOnce 32 = .ok (.iconst 1, 1) := by decide +kernel
theorem dX10_tellsShirtsOnce_33 : decode cX10_tellsShirtsOnce 33 = .ok (.iand, 1) := by decide +kernel
theorem dX10_tellsShirtsOnce_34 : decode cX10_tellsShirtsOnce 34 = .ok (.ifCond .eq 5, 3) := by decide +kernel
theorem dX10_tellsShirtsOnce_37 : decode cX10_tellsShirtsOnce 37 = .ok (.iconst 0, 1) := by decide +kernel
theorem dX10_tellsShirtsOnce_38 : decode cX10_tellsShirtsOnce 38 = .ok (.ireturn, 1) := by decide +kernel
theorem dX10_tellsShirtsOnce_39 : decode cX10_tellsShirtsOnce 39 = .ok (.iload_n 2, 1) := by decide +kernel
theorem dX10_tellsShirtsOnce_40 : decode cX10_tellsShirtsOnce 40 = .ok (.iconst 1, 1) := by decide +kernel
theorem dX10_tellsShirtsOnce_41 : decode cX10_tellsShirtsOnce 41 = .ok (.iload 4, 2) := by decide +kernel
theorem dX10_tellsShirtsOnce_43 : decode cX10_tellsShirtsOnce 43 = .ok (.ishl, 1) := by decide +kernel
theorem dX10_tellsShirtsOnce_44 : decode cX10_tellsShirtsOnce 44 = .ok (.ior, 1) := by decide +kernel
theorem dX10_tellsShirtsOnce_45 : decode cX10_tellsShirtsOnce 45 = .ok (.istore_n 2, 1) := by decide +kernel
theorem dX10_tellsShirtsOnce_46 : decode cX10_tellsShirtsOnce 46 = .ok (.iinc 3 1, 3) := by decide +kernel
theorem dX10_tellsShirtsOnce_49 : decode cX10_tellsShirtsOnce 49 = .ok (.goto (-45), 3) := by decide +kernel
theorem dX10_tellsShirtsOnce_52 : decode cX10_tellsShirtsOnce 52 = .ok (.iconst 1, 1) := by decide +kernel
theorem dX10_tellsShirtsOnce_53 : decode cX10_tellsShirtsOnce 53 = .ok (.ireturn, 1) := by decide +kernel
set_option maxHeartbeats 4000000 in
set_option maxRecDepth 100000 in
/-- ShirtWash.tellsShirtsOnce -/
theorem z_SW_tellsShirtsOnce (l : Launch) (D : va_G) (cI cJ cB cC : ClassId) (w0 : Nat) (tp : Nat) (ts : Int32) (wb : Int32) (ph : Nat) (pd : Int32) (ps : Nat) (cr : Nat) (lr : Nat) (hd : Nat) (pk : Nat) (gs : Nat) (ft : Nat → Int32) (h : Nat) (m1 : Nat) (m2 : Nat) (m3 : Nat) (mc : Int32) (sc : Int32) (tx : Int32) (nr : Int32) (ra : Int32) (ru : Int32) (dy : Int32) (wa : Int32) (se : Int32) (lw : Option Nat) (f1 : Nat → Int32) (f2 : Nat → Int32) (f3 : Nat → Int64) (a1 : Int32) (sz : Nat)  : Met l yX10_tellsShirtsOnce kwX10_tellsShirtsOnce ({ frames := 3, cells := 0, slots := 0, locals := 63 } : Room) (kPre D (kT cI cJ cB cC) sz [(w0, oX10 tp ts wb h ph pd ps cr lr hd pk gs), (tp, .inl (cI, 400, .inl ft)), (h, oX0 m1 m2 m3 mc sc tx nr ra ru dy wa se lw), (m1, .inl (cI, 50, .inl f1)), (m2, .inl (cI, 72, .inl f2)), (m3, .inl (cJ, 30, .inr (.inl f3)))] [.ref w0, .int a1]) (va_Qi (fun (r : Int32) (_ : Unit) => (r = 0 ∧ Rg a1 1 2147483647) ∨ (r = 1)) (fun (_ : Unit) (t : State) => kB D (kT cI cJ cB cC) (va_A [(w0, oX10 tp ts wb h ph pd ps cr lr hd pk gs), (tp, .inl (cI, 400, .inl ft)), (h, oX0 m1 m2 m3 mc sc tx nr ra ru dy wa se lw), (m1, .inl (cI, 50, .inl f1)), (m2, .inl (cI, 72, .inl f2)), (m3, .inl (cJ, 30, .inr (.inl f3)))] sz) [(w0, oX10 tp ts wb h ph pd ps cr lr hd pk gs), (tp, .inl (cI, 400, .inl ft)), (h, oX0 m1 m2 m3 mc sc tx nr ra ru dy wa se lw), (m1, .inl (cI, 50, .inl f1)), (m2, .inl (cI, 72, .inl f2)), (m3, .inl (cJ, 30, .inr (.inl f3)))] t) (va_A [(w0, oX10 tp ts wb h ph pd ps cr lr hd pk gs), (tp, .inl (cI, 400, .inl ft)), (h, oX0 m1 m2 m3 mc sc tx nr ra ru dy wa se lw), (m1, .inl (cI, 50, .inl f1)), (m2, .inl (cI, 72, .inl f2)), (m3, .inl (cJ, 30, .inr (.inl f3)))] sz)) 0 0 (va_A [(w0, oX10 tp ts wb h ph pd ps cr lr hd pk gs), (tp, .inl (cI, 400, .inl ft)), (h, oX0 m1 m2 m3 mc sc tx nr ra ru dy wa se lw), (m1, .inl (cI, 50, .inl f1)), (m2, .inl (cI, 72, .inl f2)), (m3, .inl (cJ, 30, .inr (.inl f3)))] sz) := by
  refine Met.ofW (cc := cX10_tellsShirtsOnce) (maxL := 5) (ret := (some .boolean)) (by decide) rfl ?_
  intro p e s m args below meth c s₁ B hml hv
  obtain ⟨rfl, hsz, hN, hE, hP, hK, hD0⟩ := hv
  have hx := B.exec
  have hb := B.bytes
  have hr := B.returns
  have hts := fun (w : Cond) (h : w ∈ kG) => atoms_spec (ws := kwX10_tellsShirtsOnce) B.pre w (List.mem_cons_of_mem _ h)
  have hown : s.vm.findClass RX10 = some m.cls := findClass_of_methodNamed B.named
  subst hsz
  have hD := hD0.self (sz := s.heap.size)
  generalize hAe : va_A [(w0, oX10 tp ts wb h ph pd ps cr lr hd pk gs), (tp, .inl (cI, 400, .inl ft)), (h, oX0 m1 m2 m3 mc sc tx nr ra ru dy wa se lw), (m1, .inl (cI, 50, .inl f1)), (m2, .inl (cI, 72, .inl f2)), (m3, .inl (cJ, 30, .inr (.inl f3)))] s.heap.size = A at hD hE ⊢
  have hA : ∀ q : Nat, s.heap.size ≤ q → A q := fun q h => by rw [← hAe]; exact Or.inr h
  have hl := lv_entry ([.ref w0, .int a1]) (n := 5) (Nat.le_of_ble_eq_true rfl)
  rw [lg_entry_eq]
  generalize (lg_sl ([.ref w0, .int a1]) ++ List.replicate (5 - (lg_sl ([.ref w0, .int a1])).length) Slot.unset).toArray = ls at hl ⊢
  have hl : lv_has ls 5 [(0, .ref w0), (1, .int a1)] := hl
  obtain ⟨H, hH0⟩ : ∃ H, H = s.heap := ⟨_, rfl⟩
  have hS : va_S A s.heap H [] := by rw [hH0]; exact va_S.rf
  have hP : va_P D vwCl [(w0, oX10 tp ts wb h ph pd ps cr lr hd pk gs), (tp, .inl (cI, 400, .inl ft)), (h, oX0 m1 m2 m3 mc sc tx nr ra ru dy wa se lw), (m1, .inl (cI, 50, .inl f1)), (m2, .inl (cI, 72, .inl f2)), (m3, .inl (cJ, 30, .inr (.inl f3)))] H := by rw [hH0]; exact hP
  refine kHeap hH0 ?_
  clear hH0
  refine lv_iconst (v := 0) hx hb dX10_tellsShirtsOnce_0 (by decide) ?_
  refine lv_istore_n (lv' := [(2, .int 0), (0, .ref w0), (1, .int a1)]) hx hb dX10_tellsShirtsOnce_1 rfl hl (by decide) rfl (fun ls hl => ?_)
  refine lv_iconst (v := 0) hx hb dX10_tellsShirtsOnce_2 (by decide) ?_
  refine lv_istore_n (lv' := [(3, .int 0), (2, .int 0), (0, .ref w0), (1, .int a1)]) hx hb dX10_tellsShirtsOnce_3 rfl hl (by decide) rfl (fun ls hl => ?_)
  refine k_loop (hd := 4) (fun (u : Int32 × Int32) => match u with | (y176, y177) => (2147483647 - (y176).toInt).toNat) (fun (u : Int32 × Int32) (H : Heap) (locs : List Loc) (ls : Array Slot) => match u with | (y176, y177) => Rg y176 0 2147483647 ∧ va_P D vwCl [(w0, oX10 tp ts wb h ph pd ps cr lr hd pk gs), (tp, .inl (cI, 400, .inl ft)), (h, oX0 m1 m2 m3 mc sc tx nr ra ru dy wa se lw), (m1, .inl (cI, 50, .inl f1)), (m2, .inl (cI, 72, .inl f2)), (m3, .inl (cJ, 30, .inr (.inl f3)))] H ∧ va_D A [(w0, oX10 tp ts wb h ph pd ps cr lr hd pk gs), (tp, .inl (cI, 400, .inl ft)), (h, oX0 m1 m2 m3 mc sc tx nr ra ru dy wa se lw), (m1, .inl (cI, 50, .inl f1)), (m2, .inl (cI, 72, .inl f2)), (m3, .inl (cJ, 30, .inr (.inl f3)))] ∧ va_S A s.heap H locs ∧ lv_has ls 5 [(3, .int y176), (2, .int y177), (0, .ref w0), (1, .int a1)]) ((0 : Int32), (0 : Int32)) ⟨(rg_w (rg_lit (n := 0) (by decide)) (by decide)), hP.sub (ws' := [(w0, oX10 tp ts wb h ph pd ps cr lr hd pk gs), (tp, .inl (cI, 400, .inl ft)), (h, oX0 m1 m2 m3 mc sc tx nr ra ru dy wa se lw), (m1, .inl (cI, 50, .inl f1)), (m2, .inl (cI, 72, .inl f2)), (m3, .inl (cJ, 30, .inr (.inl f3)))]) [0, 1, 2, 3, 4, 5] rfl, hD.sub (ws' := [(w0, oX10 tp ts wb h ph pd ps cr lr hd pk gs), (tp, .inl (cI, 400, .inl ft)), (h, oX0 m1 m2 m3 mc sc tx nr ra ru dy wa se lw), (m1, .inl (cI, 50, .inl f1)), (m2, .inl (cI, 72, .inl f2)), (m3, .inl (cJ, 30, .inr (.inl f3)))]) [0, 1, 2, 3, 4, 5] (by decide) rfl, hS, lv_sub (l' := [(3, .int 0), (2, .int 0), (0, .ref w0), (1, .int a1)]) hl [0, 1, 2, 3] rfl⟩ (fun u H locs ls hI ih178 => ?_)
  clear hP hD hS hl
  obtain ⟨y176, y177⟩ := u
  obtain ⟨hy176, hP, hD, hS, hl⟩ := hI
  have hP : va_P D vwCl [(w0, oX10 tp ts wb h ph pd ps cr lr hd pk gs), (tp, .inl (cI, 400, .inl ft)), (h, oX0 m1 m2 m3 mc sc tx nr ra ru dy wa se lw), (m1, .inl (cI, 50, .inl f1)), (m2, .inl (cI, 72, .inl f2)), (m3, .inl (cJ, 30, .inr (.inl f3)))] H := hP
  have hD : va_D A [(w0, oX10 tp ts wb h ph pd ps cr lr hd pk gs), (tp, .inl (cI, 400, .inl ft)), (h, oX0 m1 m2 m3 mc sc tx nr ra ru dy wa se lw), (m1, .inl (cI, 50, .inl f1)), (m2, .inl (cI, 72, .inl f2)), (m3, .inl (cJ, 30, .inr (.inl f3)))] := hD
  have hl : lv_has ls 5 [(3, .int y176), (2, .int y177), (0, .ref w0), (1, .int a1)] := hl
  refine lv_iload_n hx hb dX10_tellsShirtsOnce_4 rfl (lv_at hl 0 rfl) ?_
  refine lv_iload_n hx hb dX10_tellsShirtsOnce_5 rfl (lv_at hl 3 rfl) ?_
  refine lv_icmp_ge (tgt := 52) hx hb dX10_tellsShirtsOnce_6 (by decide) (fun c179 => ?_) (fun c179 => ?_)
  · skip
    refine lv_iconst (v := 1) hx hb dX10_tellsShirtsOnce_52 (by decide) ?_
    have hP9 := hP.sub (ws' := [(w0, oX10 tp ts wb h ph pd ps cr lr hd pk gs), (tp, .inl (cI, 400, .inl ft)), (h, oX0 m1 m2 m3 mc sc tx nr ra ru dy wa se lw), (m1, .inl (cI, 50, .inl f1)), (m2, .inl (cI, 72, .inl f2)), (m3, .inl (cJ, 30, .inr (.inl f3)))]) [0, 1, 2, 3, 4, 5] rfl
    have hD9 := hD.sub (ws' := [(w0, oX10 tp ts wb h ph pd ps cr lr hd pk gs), (tp, .inl (cI, 400, .inl ft)), (h, oX0 m1 m2 m3 mc sc tx nr ra ru dy wa se lw), (m1, .inl (cI, 50, .inl f1)), (m2, .inl (cI, 72, .inl f2)), (m3, .inl (cJ, 30, .inr (.inl f3)))]) [0, 1, 2, 3, 4, 5] (by decide) rfl
    exact W.zret (v := 1) hx hb hr (by decide) (fun t ht hW => ⟨⟨1, (), rfl, (Or.inr rfl), by rw [ht]; exact hP9, va_K.moved hW.alike hK, hD9⟩, hS.F ht⟩) hS.2.2 dX10_tellsShirtsOnce_53
  · skip
    have k180 : Rg y176 0 2147483646 := rg_l1 (nleI c179) hy176 (rg_any a1) (by decide)
    have k181 : Rg a1 1 2147483647 := rg_l2 (nleI c179) hy176 (rg_any a1) (by decide)
    refine lv_aload_n hx hb dX10_tellsShirtsOnce_9 rfl (lv_at hl 2 rfl) ?_
    refine lv_iload_n hx hb dX10_tellsShirtsOnce_10 rfl (lv_at hl 0 rfl) ?_
    refine kpurei (wc := [(w0, oX10 tp ts wb h ph pd ps cr lr hd pk gs), (tp, .inl (cI, 400, .inl ft))]) hP hD hS hA [0, 1] rfl (by decide) (fun hPc hDc hFc => va_runV (As := [.int y176]) (rest := []) ⟨hx, hb, hml, hown, hts⟩ (z_SW_shirtAt l D cI cJ cB cC w0 tp ts wb ph pd ps cr lr hd pk gs ft h y176 H.size) (cwV 1 hts gX10_tellsShirtsOnce_X10_shirtAt rfl rfl rfl ⟨rfl, hdX10_shirtAt⟩ ⟨Nat.le_of_ble_eq_true rfl, Nat.le_of_ble_eq_true rfl⟩) ⟨kBlind, va_recv hK hPc (ci := 9) (q0 := 0) rfl rfl, fun U hU hW => ⟨rfl, by rw [hU], hN.warm hW, hE.pass hS hFc hW hU, by rw [hU]; exact hPc, va_K.moved hW.alike hK, hDc⟩⟩ rfl rfl hl.1 rfl (lv_room (Nat.le_of_ble_eq_true rfl)) dX10_tellsShirtsOnce_11 ⟨Nat.le_of_ble_eq_true rfl, Nat.le_of_ble_eq_true rfl⟩) (fun r182 u H locs hw hP hS => ?_)
    refine lv_istore (lv' := [(4, .int r182), (3, .int y176), (2, .int y177), (0, .ref w0), (1, .int a1)]) hx hb dX10_tellsShirtsOnce_14 hl (by decide) rfl (fun ls hl => ?_)
    refine lv_aload_n hx hb dX10_tellsShirtsOnce_16 rfl (lv_at hl 3 rfl) ?_
    refine va_get (D := D) (ci := 9) (v := .ref h) (C := RX10) (T := TX10) (N := 12) hx hb hts iG_X10 hown hK hP 0 rfl rfl 3 (by decide) (hts _ w0_20) (fun _ h9 => h9) rfl dX10_tellsShirtsOnce_17 ?_
    refine lv_iload hx hb dX10_tellsShirtsOnce_20 (lv_at hl 0 rfl) ?_
    refine kpurei (wc := [(h, oX0 m1 m2 m3 mc sc tx nr ra ru dy wa se lw), (m1, .inl (cI, 50, .inl f1)), (m2, .inl (cI, 72, .inl f2)), (m3, .inl (cJ, 30, .inr (.inl f3)))]) hP hD hS hA [2, 3, 4, 5] rfl (by decide) (fun hPc hDc hFc => va_runVN (C := RX0) (As := [.int r182]) (rest := []) ⟨hx, hb, hml, hown, hts⟩ (z_Camp_isShirt l D cI cJ cB cC h m1 m2 m3 mc sc tx nr ra ru dy wa se lw f1 f2 f3 r182 H.size) ⟨va_cnB 1 hts gX10_tellsShirtsOnce_X0_isShirt_n157 rfl rfl rfl (nM_61 hN) (hts _ w0_19) hdX0_isShirt ⟨Nat.le_of_ble_eq_true rfl, Nat.le_of_ble_eq_true rfl⟩, hts (.instanceMethod yX0_isShirt) (by decide +kernel), hts (.selects RX0 yX0_isShirt yX0_isShirt) (by decide +kernel)⟩ ⟨kBlind, va_recv hK hPc (ci := 0) (q0 := 0) rfl rfl, fun U hU hW => ⟨rfl, by rw [hU], hN.warm hW, hE.pass hS hFc hW hU, by rw [hU]; exact hPc, va_K.moved hW.alike hK, hDc⟩⟩ rfl rfl hl.1 rfl (lv_room (Nat.le_of_ble_eq_true rfl)) dX10_tellsShirtsOnce_22 ⟨Nat.le_of_ble_eq_true rfl, Nat.le_of_ble_eq_true rfl⟩) (fun r183 u H locs hw hP hS => ?_)
    rcases hw with rfl | ⟨rfl, kc184_0, kc184_1⟩
    · skip
      refine lv_if_eq (tgt := 37) hx hb dX10_tellsShirtsOnce_25 (by decide) (fun _ => ?_) (fun c186 => absurd (by decide) c186)
      refine lv_iconst (v := 0) hx hb dX10_tellsShirtsOnce_37 (by decide) ?_
      have hP9 := hP.sub (ws' := [(w0, oX10 tp ts wb h ph pd ps cr lr hd pk gs), (tp, .inl (cI, 400, .inl ft)), (h, oX0 m1 m2 m3 mc sc tx nr ra ru dy wa se lw), (m1, .inl (cI, 50, .inl f1)), (m2, .inl (cI, 72, .inl f2)), (m3, .inl (cJ, 30, .inr (.inl f3)))]) [0, 1, 2, 3, 4, 5] rfl
      have hD9 := hD.sub (ws' := [(w0, oX10 tp ts wb h ph pd ps cr lr hd pk gs), (tp, .inl (cI, 400, .inl ft)), (h, oX0 m1 m2 m3 mc sc tx nr ra ru dy wa se lw), (m1, .inl (cI, 50, .inl f1)), (m2, .inl (cI, 72, .inl f2)), (m3, .inl (cJ, 30, .inr (.inl f3)))]) [0, 1, 2, 3, 4, 5] (by decide) rfl
      exact W.zret (v := 0) hx hb hr (by decide) (fun t ht hW => ⟨⟨0, (), rfl, (Or.inl ⟨rfl, k181⟩), by rw [ht]; exact hP9, va_K.moved hW.alike hK, hD9⟩, hS.F ht⟩) hS.2.2 dX10_tellsShirtsOnce_38
    · skip
      refine lv_if_eq (tgt := 37) hx hb dX10_tellsShirtsOnce_25 (by decide) (fun c198 => absurd c198 (by decide)) (fun _ => ?_)
      refine lv_iload_n hx hb dX10_tellsShirtsOnce_28 rfl (lv_at hl 2 rfl) ?_
      refine lv_iload hx hb dX10_tellsShirtsOnce_29 (lv_at hl 0 rfl) ?_
      refine lv_ishr hx hb dX10_tellsShirtsOnce_31 ?_
      refine lv_topi (fun x199 ex199 => ?_)
      clear ex199
      refine lv_iconst (v := 1) hx hb dX10_tellsShirtsOnce_32 (by decide) ?_
      refine lv_iand hx hb dX10_tellsShirtsOnce_33 ?_
      refine lv_topi (fun x200 ex200 => ?_)
      have k201 : Rg x200 0 1 := rg_andr ex200 (rg_lit (n := 1) (by decide)) (by decide)
      clear ex200
      refine lv_if_eq (tgt := 39) hx hb dX10_tellsShirtsOnce_34 (by decide) (fun c202 => ?_) (fun c202 => ?_)
      · skip
        have k203 : Rg x200 0 0 := rg_q1 (eqI c202) k201 (rg_lit (n := 0) (by decide)) (by decide)
        refine lv_iload_n hx hb dX10_tellsShirtsOnce_39 rfl (lv_at hl 2 rfl) ?_
        refine lv_iconst (v := 1) hx hb dX10_tellsShirtsOnce_40 (by decide) ?_
        refine lv_iload hx hb dX10_tellsShirtsOnce_41 (lv_at hl 0 rfl) ?_
        refine lv_ishl hx hb dX10_tellsShirtsOnce_43 ?_
        refine lv_topi (fun x204 ex204 => ?_)
        clear ex204
        refine lv_ior hx hb dX10_tellsShirtsOnce_44 ?_
        refine lv_topi (fun x205 ex205 => ?_)
        clear ex205
        refine lv_istore_n (lv' := [(2, .int x205), (4, .int r182), (3, .int y176), (0, .ref w0), (1, .int a1)]) hx hb dX10_tellsShirtsOnce_45 rfl hl (by decide) rfl (fun ls hl => ?_)
        obtain ⟨x206, ex206⟩ : ∃ y : Int32, y = y176 + 1 := ⟨_, rfl⟩
        refine lv_iinc (v := x206) (lv' := [(3, .int x206), (2, .int x205), (4, .int r182), (0, .ref w0), (1, .int a1)]) hx hb dX10_tellsShirtsOnce_46 hl (k := 2) rfl (by rw [ex206]; rfl) (by decide) rfl (fun ls hl => ?_)
        have k207 : Rg x206 1 2147483647 := rg_add ex206 k180 (rg_lit (n := 1) (by decide)) (by decide)
        refine lv_goto (tgt := 4) hx hb dX10_tellsShirtsOnce_49 (by decide) ?_
        exact ih178 (x206, x205) _ _ _ (by show (2147483647 - (x206).toInt).toNat < (2147483647 - (y176).toInt).toNat; exact mu_up ex206 k180 k207 (by decide)) ⟨(rg_w k207 (by decide)), hP.sub (ws' := [(w0, oX10 tp ts wb h ph pd ps cr lr hd pk gs), (tp, .inl (cI, 400, .inl ft)), (h, oX0 m1 m2 m3 mc sc tx nr ra ru dy wa se lw), (m1, .inl (cI, 50, .inl f1)), (m2, .inl (cI, 72, .inl f2)), (m3, .inl (cJ, 30, .inr (.inl f3)))]) [0, 1, 2, 3, 4, 5] rfl, hD.sub (ws' := [(w0, oX10 tp ts wb h ph pd ps cr lr hd pk gs), (tp, .inl (cI, 400, .inl ft)), (h, oX0 m1 m2 m3 mc sc tx nr ra ru dy wa se lw), (m1, .inl (cI, 50, .inl f1)), (m2, .inl (cI, 72, .inl f2)), (m3, .inl (cJ, 30, .inr (.inl f3)))]) [0, 1, 2, 3, 4, 5] (by decide) rfl, hS, lv_sub (l' := [(3, .int x206), (2, .int x205), (0, .ref w0), (1, .int a1)]) hl [0, 1, 3, 4] rfl⟩
      · skip
        have k208 : Rg x200 1 1 := rg_n1 (neI c202) k201 (rg_lit (n := 0) (by decide)) (by decide)
        refine lv_iconst (v := 0) hx hb dX10_tellsShirtsOnce_37 (by decide) ?_
        have hP9 := hP.sub (ws' := [(w0, oX10 tp ts wb h ph pd ps cr lr hd pk gs), (tp, .inl (cI, 400, .inl ft)), (h, oX0 m1 m2 m3 mc sc tx nr ra ru dy wa se lw), (m1, .inl (cI, 50, .inl f1)), (m2, .inl (cI, 72, .inl f2)), (m3, .inl (cJ, 30, .inr (.inl f3)))]) [0, 1, 2, 3, 4, 5] rfl
        have hD9 := hD.sub (ws' := [(w0, oX10 tp ts wb h ph pd ps cr lr hd pk gs), (tp, .inl (cI, 400, .inl ft)), (h, oX0 m1 m2 m3 mc sc tx nr ra ru dy wa se lw), (m1, .inl (cI, 50, .inl f1)), (m2, .inl (cI, 72, .inl f2)), (m3, .inl (cJ, 30, .inr (.inl f3)))]) [0, 1, 2, 3, 4, 5] (by decide) rfl
        exact W.zret (v := 0) hx hb hr (by decide) (fun t ht hW => ⟨⟨0, (), rfl, (Or.inl ⟨rfl, k181⟩), by rw [ht]; exact hP9, va_K.moved hW.alike hK, hD9⟩, hS.F ht⟩) hS.2.2 dX10_tellsShirtsOnce_38

def kwX10_tellsTheChestAlone : List Cond := .code yX10_tellsTheChestAlone cX10_tellsTheChestAlone 3 (some .boolean) :: kG
theorem hdX10_tellsTheChestAlone : yX10_tellsTheChestAlone.cls ≠ "java/lang/invoke/MethodHandle" ∧ yX10_tellsTheChestAlone.cls ≠ "java/lang/invoke/VarHandle" ∧ (parseMethodDescriptor yX10_tellsTheChestAlone.desc).map (fun d => d.parameters.length) = some 1 := by decide +kernel
theorem gX10_tellsTheChestAlone_X0_isInChest_n192 : GoodIn kG (kwX0_isInChest) := gK w15_9 gGG
theorem gX10_tellsTheChestAlone_X10_shirtAt : GoodIn kG (wsV RX10 356 RX10 yX10_shirtAt kwX10_shirtAt) := gK w36_11 (gK w36_12 (gK w36_13 (gK w0_2 (gK w36_14 gGG))))
theorem dX10_tellsTheChestAlone_0 : decode cX10_tellsTheChestAlone 0 = .ok (.iconst 0, 1) := by decide +kernel
theorem dX10_tellsTheChestAlone_1 : decode cX10_tellsTheChestAlone 1 = .ok (.istore_n 2, 1) := by decide +kernel
theorem dX10_tellsTheChestAlone_2 : decode cX10_tellsTheChestAlone 2 = .ok (.iload_n 2, 1) := by decide +kernel
theorem dX10_tellsTheChestAlone_3 : decode cX10_tellsTheChestAlone 3 = .ok (.iload_n 1, 1) := by decide +kernel
theorem dX10_tellsTheChestAlone_4 : decode cX10_tellsTheChestAlone 4 = .ok (.if_icmp .ge 26, 3) := by decide +kernel
theorem dX10_tellsTheChestAlone_7 : decode cX10_tellsTheChestAlone 7 = .ok (.aload_n 0, 1) := by decide +kernel
theorem dX10_tellsTheChestAlone_8 : decode cX10_tellsTheChestAlone 8 = .ok (.getfield 23, 3) := by decide +kernel
theorem dX10_tellsTheChestAlone_11 : decode cX10_tellsTheChestAlone 11 = .ok (.aload_n 0, 1) := by decide +kernel
theorem dX10_tellsTheChestAlone_12 : decode cX10_tellsTheChestAlone 12 = .ok (.iload_n 2, 1) := by decide +kernel
theorem dX10_tellsTheChestAlone_13 : decode cX10_tellsTheChestAlone 13 = .ok (.invokevirtual 356, 3) := by decide +kernel
theorem dX10_tellsTheChestAlone_16 : decode cX10_tellsTheChestAlone 16 = .ok (.invokevirtual 192, 3) := by decide +kernel
theorem dX10_tellsTheChestAlone_19 : decode cX10_tellsTheChestAlone 19 = .ok (.ifCond .ne 5, 3) := by decide +kernel
theorem dX10_tellsTheChestAlone_22 : decode cX10_tellsTheChestAlone 22 = .ok (.iconst 0, 1) := by decide +kernel
theorem dX10_tellsTheChestAlone_23 : decode cX10_tellsTheChestAlone 23 = .ok (.ireturn, 1) := by decide +kernel
theorem dX10_tellsTheChestAlone_24 : decode cX10_tellsTheChestAlone 24 = .ok (.iinc 2 1, 3) := by decide +kernel
theorem dX10_tellsTheChestAlone_27 : decode cX10_tellsTheChestAlone 27 = .ok (.goto (-25), 3) := by decide +kernel
theorem dX10_tellsTheChestAlone_30 : decode cX10_tellsTheChestAlone 30 = .ok (.iconst 1, 1) := by decide +kernel
theorem dX10_tellsTheChestAlone_31 : decode cX10_tellsTheChestAlone 31 = .ok (.ireturn, 1) := by decide +kernel
set_option maxHeartbeats 4000000 in
set_option maxRecDepth 100000 in
/-- ShirtWash.tellsTheChestAlone -/
theorem z_SW_tellsTheChestAlone (l : Launch) (D : va_G) (cI cJ cB cC : ClassId) (w0 : Nat) (tp : Nat) (ts : Int32) (wb : Int32) (ph : Nat) (pd : Int32) (ps : Nat) (cr : Nat) (lr : Nat) (hd : Nat) (pk : Nat) (gs : Nat) (ft : Nat → Int32) (h : Nat) (m1 : Nat) (m2 : Nat) (m3 : Nat) (mc : Int32) (sc : Int32) (tx : Int32) (nr : Int32) (ra : Int32) (ru : Int32) (dy : Int32) (wa : Int32) (se : Int32) (lw : Option Nat) (f1 : Nat → Int32) (f2 : Nat → Int32) (f3 : Nat → Int64) (a1 : Int32) (sz : Nat)  : Met l yX10_tellsTheChestAlone kwX10_tellsTheChestAlone ({ frames := 3, cells := 0, slots := 0, locals := 63 } : Room) (kPre D (kT cI cJ cB cC) sz [(w0, oX10 tp ts wb h ph pd ps cr lr hd pk gs), (tp, .inl (cI, 400, .inl ft)), (h, oX0 m1 m2 m3 mc sc tx nr ra ru dy wa se lw), (m1, .inl (cI, 50, .inl f1)), (m2, .inl (cI, 72, .inl f2)), (m3, .inl (cJ, 30, .inr (.inl f3)))] [.ref w0, .int a1]) (va_Qi (fun (r : Int32) (_ : Unit) => (r = 0 ∧ Rg a1 1 2147483647) ∨ (r = 1)) (fun (_ : Unit) (t : State) => kB D (kT cI cJ cB cC) (va_A [(w0, oX10 tp ts wb h ph pd ps cr lr hd pk gs), (tp, .inl (cI, 400, .inl ft)), (h, oX0 m1 m2 m3 mc sc tx nr ra ru dy wa se lw), (m1, .inl (cI, 50, .inl f1)), (m2, .inl (cI, 72, .inl f2)), (m3, .inl (cJ, 30, .inr (.inl f3)))] sz) [(w0, oX10 tp ts wb h ph pd ps cr lr hd pk gs), (tp, .inl (cI, 400, .inl ft)), (h, oX0 m1 m2 m3 mc sc tx nr ra ru dy wa se lw), (m1, .inl (cI, 50, .inl f1)), (m2, .inl (cI, 72, .inl f2)), (m3, .inl (cJ, 30, .inr (.inl f3)))] t) (va_A [(w0, oX10 tp ts wb h ph pd ps cr lr hd pk gs), (tp, .inl (cI, 400, .inl ft)), (h, oX0 m1 m2 m3 mc sc tx nr ra ru dy wa se lw), (m1, .inl (cI, 50, .inl f1)), (m2, .inl (cI, 72, .inl f2)), (m3, .inl (cJ, 30, .inr (.inl f3)))] sz)) 0 0 (va_A [(w0, oX10 tp ts wb h ph pd ps cr lr hd pk gs), (tp, .inl (cI, 400, .inl ft)), (h, oX0 m1 m2 m3 mc sc tx nr ra ru dy wa se lw), (m1, .inl (cI, 50, .inl f1)), (m2, .inl (cI, 72, .inl f2)), (m3, .inl (cJ, 30, .inr (.inl f3)))] sz) := by
  refine Met.ofW (cc := cX10_tellsTheChestAlone) (maxL := 3) (ret := (some .boolean)) (by decide) rfl ?_
  intro p e s m args below meth c s₁ B hml hv
  obtain ⟨rfl, hsz, hN, hE, hP, hK, hD0⟩ := hv
  have hx := B.exec
  have hb := B.bytes
  have hr := B.returns
  have hts := fun (w : Cond) (h : w ∈ kG) => atoms_spec (ws := kwX10_tellsTheChestAlone) B.pre w (List.mem_cons_of_mem _ h)
  have hown : s.vm.findClass RX10 = some m.cls := findClass_of_methodNamed B.named
  subst hsz
  have hD := hD0.self (sz := s.heap.size)
  generalize hAe : va_A [(w0, oX10 tp ts wb h ph pd ps cr lr hd pk gs), (tp, .inl (cI, 400, .inl ft)), (h, oX0 m1 m2 m3 mc sc tx nr ra ru dy wa se lw), (m1, .inl (cI, 50, .inl f1)), (m2, .inl (cI, 72, .inl f2)), (m3, .inl (cJ, 30, .inr (.inl f3)))] s.heap.size = A at hD hE ⊢
  have hA : ∀ q : Nat, s.heap.size ≤ q → A q := fun q h => by rw [← hAe]; exact Or.inr h
  have hl := lv_entry ([.ref w0, .int a1]) (n := 3) (Nat.le_of_ble_eq_true rfl)
  rw [lg_entry_eq]
  generalize (lg_sl ([.ref w0, .int a1]) ++ List.replicate (3 - (lg_sl ([.ref w0, .int a1])).length) Slot.unset).toArray = ls at hl ⊢
  have hl : lv_has ls 3 [(0, .ref w0), (1, .int a1)] := hl
  obtain ⟨H, hH0⟩ : ∃ H, H = s.heap := ⟨_, rfl⟩
  have hS : va_S A s.heap H [] := by rw [hH0]; exact va_S.rf
  have hP : va_P D vwCl [(w0, oX10 tp ts wb h ph pd ps cr lr hd pk gs), (tp, .inl (cI, 400, .inl ft)), (h, oX0 m1 m2 m3 mc sc tx nr ra ru dy wa se lw), (m1, .inl (cI, 50, .inl f1)), (m2, .inl (cI, 72, .inl f2)), (m3, .inl (cJ, 30, .inr (.inl f3)))] H := by rw [hH0]; exact hP
  refine kHeap hH0 ?_
  clear hH0
  refine lv_iconst (v := 0) hx hb dX10_tellsTheChestAlone_0 (by decide) ?_
  refine lv_istore_n (lv' := [(2, .int 0), (0, .ref w0), (1, .int a1)]) hx hb dX10_tellsTheChestAlone_1 rfl hl (by decide) rfl (fun ls hl => ?_)
  refine k_loop (hd := 2) (fun (y97 : Int32) => (2147483647 - (y97).toInt).toNat) (fun (y97 : Int32) (H : Heap) (locs : List Loc) (ls : Array Slot) => Rg y97 0 2147483647 ∧ va_P D vwCl [(w0, oX10 tp ts wb h ph pd ps cr lr hd pk gs), (tp, .inl (cI, 400, .inl ft)), (h, oX0 m1 m2 m3 mc sc tx nr ra ru dy wa se lw), (m1, .inl (cI, 50, .inl f1)), (m2, .inl (cI, 72, .inl f2)), (m3, .inl (cJ, 30, .inr (.inl f3)))] H ∧ va_D A [(w0, oX10 tp ts wb h ph pd ps cr lr hd pk gs), (tp, .inl (cI, 400, .inl ft)), (h, oX0 m1 m2 m3 mc sc tx nr ra ru dy wa se lw), (m1, .inl (cI, 50, .inl f1)), (m2, .inl (cI, 72, .inl f2)), (m3, .inl (cJ, 30, .inr (.inl f3)))] ∧ va_S A s.heap H locs ∧ lv_has ls 3 [(2, .int y97), (0, .ref w0), (1, .int a1)]) ((0 : Int32)) ⟨(rg_w (rg_lit (n := 0) (by decide)) (by decide)), hP.sub (ws' := [(w0, oX10 tp ts wb h ph pd ps cr lr hd pk gs), (tp, .inl (cI, 400, .inl ft)), (h, oX0 m1 m2 m3 mc sc tx nr ra ru dy wa se lw), (m1, .inl (cI, 50, .inl f1)), (m2, .inl (cI, 72, .inl f2)), (m3, .inl (cJ, 30, .inr (.inl f3)))]) [0, 1, 2, 3, 4, 5] rfl, hD.sub (ws' := [(w0, oX10 tp ts wb h ph pd ps cr lr hd pk gs), (tp, .inl (cI, 400, .inl ft)), (h, oX0 m1 m2 m3 mc sc tx nr ra ru dy wa se lw), (m1, .inl (cI, 50, .inl f1)), (m2, .inl (cI, 72, .inl f2)), (m3, .inl (cJ, 30, .inr (.inl f3)))]) [0, 1, 2, 3, 4, 5] (by decide) rfl, hS, lv_sub (l' := [(2, .int 0), (0, .ref w0), (1, .int a1)]) hl [0, 1, 2] rfl⟩ (fun u H locs ls hI ih98 => ?_)
  clear hP hD hS hl
  obtain ⟨y97, rfl⟩ : ∃ z, z = u := ⟨_, rfl⟩
  obtain ⟨hy97, hP, hD, hS, hl⟩ := hI
  have hP : va_P D vwCl [(w0, oX10 tp ts wb h ph pd ps cr lr hd pk gs), (tp, .inl (cI, 400, .inl ft)), (h, oX0 m1 m2 m3 mc sc tx nr ra ru dy wa se lw), (m1, .inl (cI, 50, .inl f1)), (m2, .inl (cI, 72, .inl f2)), (m3, .inl (cJ, 30, .inr (.inl f3)))] H := hP
  have hD : va_D A [(w0, oX10 tp ts wb h ph pd ps cr lr hd pk gs), (tp, .inl (cI, 400, .inl ft)), (h, oX0 m1 m2 m3 mc sc tx nr ra ru dy wa se lw), (m1, .inl (cI, 50, .inl f1)), (m2, .inl (cI, 72, .inl f2)), (m3, .inl (cJ, 30, .inr (.inl f3)))] := hD
  have hl : lv_has ls 3 [(2, .int y97), (0, .ref w0), (1, .int a1)] := hl
  refine lv_iload_n hx hb dX10_tellsTheChestAlone_2 rfl (lv_at hl 0 rfl) ?_
  refine lv_iload_n hx hb dX10_tellsTheChestAlone_3 rfl (lv_at hl 2 rfl) ?_
  refine lv_icmp_ge (tgt := 30) hx hb dX10_tellsTheChestAlone_4 (by decide) (fun c99 => ?_) (fun c99 => ?_)
  · skip
    refine lv_iconst (v := 1) hx hb dX10_tellsTheChestAlone_30 (by decide) ?_
    have hP9 := hP.sub (ws' := [(w0, oX10 tp ts wb h ph pd ps cr lr hd pk gs), (tp, .inl (cI, 400, .inl ft)), (h, oX0 m1 m2 m3 mc sc tx nr ra ru dy wa se lw), (m1, .inl (cI, 50, .inl f1)), (m2, .inl (cI, 72, .inl f2)), (m3, .inl (cJ, 30, .inr (.inl f3)))]) [0, 1, 2, 3, 4, 5] rfl
    have hD9 := hD.sub (ws' := [(w0, oX10 tp ts wb h ph pd ps cr lr hd pk gs), (tp, .inl (cI, 400, .inl ft)), (h, oX0 m1 m2 m3 mc sc tx nr ra ru dy wa se lw), (m1, .inl (cI, 50, .inl f1)), (m2, .inl (cI, 72, .inl f2)), (m3, .inl (cJ, 30, .inr (.inl f3)))]) [0, 1, 2, 3, 4, 5] (by decide) rfl
    exact W.zret (v := 1) hx hb hr (by decide) (fun t ht hW => ⟨⟨1, (), rfl, (Or.inr rfl), by rw [ht]; exact hP9, va_K.moved hW.alike hK, hD9⟩, hS.F ht⟩) hS.2.2 dX10_tellsTheChestAlone_31
  · skip
    have k100 : Rg y97 0 2147483646 := rg_l1 (nleI c99) hy97 (rg_any a1) (by decide)
    have k101 : Rg a1 1 2147483647 := rg_l2 (nleI c99) hy97 (rg_any a1) (by decide)
    refine lv_aload_n hx hb dX10_tellsTheChestAlone_7 rfl (lv_at hl 1 rfl) ?_
    refine va_get (D := D) (ci := 9) (v := .ref h) (C := RX10) (T := TX10) (N := 12) hx hb hts iG_X10 hown hK hP 0 rfl rfl 3 (by decide) (hts _ w0_20) (fun _ h9 => h9) rfl dX10_tellsTheChestAlone_8 ?_
    refine lv_aload_n hx hb dX10_tellsTheChestAlone_11 rfl (lv_at hl 1 rfl) ?_
    refine lv_iload_n hx hb dX10_tellsTheChestAlone_12 rfl (lv_at hl 0 rfl) ?_
    refine kpurei (wc := [(w0, oX10 tp ts wb h ph pd ps cr lr hd pk gs), (tp, .inl (cI, 400, .inl ft))]) hP hD hS hA [0, 1] rfl (by decide) (fun hPc hDc hFc => va_runV (As := [.int y97]) (rest := [.ref h]) ⟨hx, hb, hml, hown, hts⟩ (z_SW_shirtAt l D cI cJ cB cC w0 tp ts wb ph pd ps cr lr hd pk gs ft h y97 H.size) (cwV 1 hts gX10_tellsTheChestAlone_X10_shirtAt rfl rfl rfl ⟨rfl, hdX10_shirtAt⟩ ⟨Nat.le_of_ble_eq_true rfl, Nat.le_of_ble_eq_true rfl⟩) ⟨kBlind, va_recv hK hPc (ci := 9) (q0 := 0) rfl rfl, fun U hU hW => ⟨rfl, by rw [hU], hN.warm hW, hE.pass hS hFc hW hU, by rw [hU]; exact hPc, va_K.moved hW.alike hK, hDc⟩⟩ rfl rfl hl.1 rfl (lv_room (Nat.le_of_ble_eq_true rfl)) dX10_tellsTheChestAlone_13 ⟨Nat.le_of_ble_eq_true rfl, Nat.le_of_ble_eq_true rfl⟩) (fun r102 u H locs hw hP hS => ?_)
    refine kpurei (wc := [(h, oX0 m1 m2 m3 mc sc tx nr ra ru dy wa se lw), (m1, .inl (cI, 50, .inl f1)), (m2, .inl (cI, 72, .inl f2)), (m3, .inl (cJ, 30, .inr (.inl f3)))]) hP hD hS hA [2, 3, 4, 5] rfl (by decide) (fun hPc hDc hFc => va_runVN (C := RX0) (As := [.int r102]) (rest := []) ⟨hx, hb, hml, hown, hts⟩ (z_Camp_isInChest l D cI cJ cB cC h m1 m2 m3 mc sc tx nr ra ru dy wa se lw f1 f2 f3 r102 H.size) ⟨va_cnB 1 hts gX10_tellsTheChestAlone_X0_isInChest_n192 rfl rfl rfl (nM_68 hN) (hts _ w0_19) hdX0_isInChest ⟨Nat.le_of_ble_eq_true rfl, Nat.le_of_ble_eq_true rfl⟩, hts (.instanceMethod yX0_isInChest) (by decide +kernel), hts (.selects RX0 yX0_isInChest yX0_isInChest) (by decide +kernel)⟩ ⟨kBlind, va_recv hK hPc (ci := 0) (q0 := 0) rfl rfl, fun U hU hW => ⟨rfl, by rw [hU], hN.warm hW, hE.pass hS hFc hW hU, by rw [hU]; exact hPc, va_K.moved hW.alike hK, hDc⟩⟩ rfl rfl hl.1 rfl (lv_room (Nat.le_of_ble_eq_true rfl)) dX10_tellsTheChestAlone_16 ⟨Nat.le_of_ble_eq_true rfl, Nat.le_of_ble_eq_true rfl⟩) (fun r103 u H locs hw hP hS => ?_)
    rcases hw with rfl | rfl
    · skip
      refine lv_if_ne (tgt := 24) hx hb dX10_tellsTheChestAlone_19 (by decide) (fun c105 => absurd (by decide) c105) (fun _ => ?_)
      refine lv_iconst (v := 0) hx hb dX10_tellsTheChestAlone_22 (by decide) ?_
      have hP9 := hP.sub (ws' := [(w0, oX10 tp ts wb h ph pd ps cr lr hd pk gs), (tp, .inl (cI, 400, .inl ft)), (h, oX0 m1 m2 m3 mc sc tx nr ra ru dy wa se lw), (m1, .inl (cI, 50, .inl f1)), (m2, .inl (cI, 72, .inl f2)), (m3, .inl (cJ, 30, .inr (.inl f3)))]) [0, 1, 2, 3, 4, 5] rfl
      have hD9 := hD.sub (ws' := [(w0, oX10 tp ts wb h ph pd ps cr lr hd pk gs), (tp, .inl (cI, 400, .inl ft)), (h, oX0 m1 m2 m3 mc sc tx nr ra ru dy wa se lw), (m1, .inl (cI, 50, .inl f1)), (m2, .inl (cI, 72, .inl f2)), (m3, .inl (cJ, 30, .inr (.inl f3)))]) [0, 1, 2, 3, 4, 5] (by decide) rfl
      exact W.zret (v := 0) hx hb hr (by decide) (fun t ht hW => ⟨⟨0, (), rfl, (Or.inl ⟨rfl, k101⟩), by rw [ht]; exact hP9, va_K.moved hW.alike hK, hD9⟩, hS.F ht⟩) hS.2.2 dX10_tellsTheChestAlone_23
    · skip
      refine lv_if_ne (tgt := 24) hx hb dX10_tellsTheChestAlone_19 (by decide) (fun _ => ?_) (fun c106 => absurd c106 (by decide))
      obtain ⟨x107, ex107⟩ : ∃ y : Int32, y = y97 + 1 := ⟨_, rfl⟩
      refine lv_iinc (v := x107) (lv' := [(2, .int x107), (0, .ref w0), (1, .int a1)]) hx hb dX10_tellsTheChestAlone_24 hl (k := 0) rfl (by rw [ex107]; rfl) (by decide) rfl (fun ls hl => ?_)
      have k108 : Rg x107 1 2147483647 := rg_add ex107 k100 (rg_lit (n := 1) (by decide)) (by decide)
      refine lv_goto (tgt := 2) hx hb dX10_tellsTheChestAlone_27 (by decide) ?_
      exact ih98 (x107) _ _ _ (by show (2147483647 - (x107).toInt).toNat < (2147483647 - (y97).toInt).toNat; exact mu_up ex107 k100 k108 (by decide)) ⟨(rg_w k108 (by decide)), hP.sub (ws' := [(w0, oX10 tp ts wb h ph pd ps cr lr hd pk gs), (tp, .inl (cI, 400, .inl ft)), (h, oX0 m1 m2 m3 mc sc tx nr ra ru dy wa se lw), (m1, .inl (cI, 50, .inl f1)), (m2, .inl (cI, 72, .inl f2)), (m3, .inl (cJ, 30, .inr (.inl f3)))]) [0, 1, 2, 3, 4, 5] rfl, hD.sub (ws' := [(w0, oX10 tp ts wb h ph pd ps cr lr hd pk gs), (tp, .inl (cI, 400, .inl ft)), (h, oX0 m1 m2 m3 mc sc tx nr ra ru dy wa se lw), (m1, .inl (cI, 50, .inl f1)), (m2, .inl (cI, 72, .inl f2)), (m3, .inl (cJ, 30, .inr (.inl f3)))]) [0, 1, 2, 3, 4, 5] (by decide) rfl, hS, lv_sub (l' := [(2, .int x107), (0, .ref w0), (1, .int a1)]) hl [0, 1, 2] rfl⟩

def kwX10_tellsMen : List Cond := .code yX10_tellsMen cX10_tellsMen 3 (some .boolean) :: kG
theorem hdX10_tellsMen : yX10_tellsMen.cls ≠ "java/lang/invoke/MethodHandle" ∧ yX10_tellsMen.cls ≠ "java/lang/invoke/VarHandle" ∧ (parseMethodDescriptor yX10_tellsMen.desc).map (fun d => d.parameters.length) = some 1 := by decide +kernel
theorem gX10_tellsMen_X0_isMan_n136 : GoodIn kG (kwX0_isMan) := gK w14_20 gGG
theorem gX10_tellsMen_X10_byteAt : GoodIn kG (wsV RX10 353 RX10 yX10_byteAt kwX10_byteAt) := gK w36_15 (gK w36_16 (gK w36_17 (gK w0_2 (gK w36_18 gGG))))
theorem dX10_tellsMen_0 : decode cX10_tellsMen 0 = .ok (.iload_n 1, 1) := by decide +kernel
theorem dX10_tellsMen_1 : decode cX10_tellsMen 1 = .ok (.aload_n 0, 1) := by decide +kernel
theorem dX10_tellsMen_2 : decode cX10_tellsMen 2 = .ok (.getfield 23, 3) := by decide +kernel
theorem dX10_tellsMen_5 : decode cX10_tellsMen 5 = .ok (.getfield 256, 3) := by decide +kernel
theorem dX10_tellsMen_8 : decode cX10_tellsMen 8 = .ok (.if_icmp .eq 5, 3) := by decide +kernel
theorem dX10_tellsMen_11 : decode cX10_tellsMen 11 = .ok (.iconst 0, 1) := by decide +kernel
theorem dX10_tellsMen_12 : decode cX10_tellsMen 12 = .ok (.ireturn, 1) := by decide +kernel
theorem dX10_tellsMen_13 : decode cX10_tellsMen 13 = .ok (.iconst 0, 1) := by decide +kernel
theorem dX10_tellsMen_14 : decode cX10_tellsMen 14 = .ok (.istore_n 2, 1) := by decide +kernel
theorem dX10_tellsMen_15 : decode cX10_tellsMen 15 = .ok (.iload_n 2, 1) := by decide +kernel
theorem dX10_tellsMen_16 : decode cX10_tellsMen 16 = .ok (.iload_n 1, 1) := by decide +kernel
theorem dX10_tellsMen_17 : decode cX10_tellsMen 17 = .ok (.if_icmp .ge 29, 3) := by decide +kernel
theorem dX10_tellsMen_20 : decode cX10_tellsMen 20 = .ok (.aload_n 0, 1) := by decide +kernel
theorem dX10_tellsMen_21 : decode cX10_tellsMen 21 = .ok (.getfield 23, 3) := by decide +kernel
theorem dX10_tellsMen_24 : decode cX10_tellsMen 24 = .ok (.aload_n 0, 1) := by decide +kernel
theorem dX10_tellsMen_25 : decode cX10_tellsMen 25 = .ok (.iload_n 2, 1) := by decide +kernel
theorem dX10_tellsMen_26 : decode cX10_tellsMen 26 = .ok (.invokevirtual 353, 3) := by decide +kernel
theorem dX10_tellsMen_29 : decode cX10_tellsMen 29 = .ok (.bipush 48, 2) := by decide +kernel
theorem dX10_tellsMen_31 : decode cX10_tellsMen 31 = .ok (.isub, 1) := by decide +kernel
theorem dX10_tellsMen_32 : decode cX10_tellsMen 32 = .ok (.invokevirtual 136, 3) := by decide +kernel
theorem dX10_tellsMen_35 : decode cX10_tellsMen 35 = .ok (.ifCond .ne 5, 3) := by decide +kernel
theorem dX10_tellsMen_38 : decode cX10_tellsMen 38 = .ok (.iconst 0, 1) := by decide +kernel
theorem dX10_tellsMen_39 : decode cX10_tellsMen 39 = .ok (.ireturn, 1) := by decide +kernel
theorem dX10_tellsMen_40 : decode cX10_tellsMen 40 = .ok (.iinc 2 1, 3) := by decide +kernel
theorem dX10_tellsMen_43 : decode cX10_tellsMen 43 = .ok (.goto (-28), 3) := by decide +kernel
theorem dX10_tellsMen_46 : decode cX10_tellsMen 46 = .ok (.iconst 1, 1) := by decide +kernel
theorem dX10_tellsMen_47 : decode cX10_tellsMen 47 = .ok (.ireturn, 1) := by decide +kernel
set_option maxHeartbeats 4000000 in
set_option maxRecDepth 100000 in
/-- ShirtWash.tellsMen -/
theorem z_SW_tellsMen (l : Launch) (D : va_G) (cI cJ cB cC : ClassId) (w0 : Nat) (tp : Nat) (ts : Int32) (wb : Int32) (ph : Nat) (pd : Int32) (ps : Nat) (cr : Nat) (lr : Nat) (hd : Nat) (pk : Nat) (gs : Nat) (ft : Nat → Int32) (h : Nat) (m1 : Nat) (m2 : Nat) (m3 : Nat) (mc : Int32) (sc : Int32) (tx : Int32) (nr : Int32) (ra : Int32) (ru : Int32) (dy : Int32) (wa : Int32) (se : Int32) (lw : Option Nat) (f1 : Nat → Int32) (f2 : Nat → Int32) (f3 : Nat → Int64) (a1 : Int32) (sz : Nat)  : Met l yX10_tellsMen kwX10_tellsMen ({ frames := 2, cells := 0, slots := 0, locals := 42 } : Room) (kPre D (kT cI cJ cB cC) sz [(w0, oX10 tp ts wb h ph pd ps cr lr hd pk gs), (tp, .inl (cI, 400, .inl ft)), (h, oX0 m1 m2 m3 mc sc tx nr ra ru dy wa se lw), (m1, .inl (cI, 50, .inl f1)), (m2, .inl (cI, 72, .inl f2)), (m3, .inl (cJ, 30, .inr (.inl f3)))] [.ref w0, .int a1]) (va_Qi (fun (r : Int32) (_ : Unit) => (r = 0) ∨ (r = 1)) (fun (_ : Unit) (t : State) => kB D (kT cI cJ cB cC) (va_A [(w0, oX10 tp ts wb h ph pd ps cr lr hd pk gs), (tp, .inl (cI, 400, .inl ft)), (h, oX0 m1 m2 m3 mc sc tx nr ra ru dy wa se lw), (m1, .inl (cI, 50, .inl f1)), (m2, .inl (cI, 72, .inl f2)), (m3, .inl (cJ, 30, .inr (.inl f3)))] sz) [(w0, oX10 tp ts wb h ph pd ps cr lr hd pk gs), (tp, .inl (cI, 400, .inl ft)), (h, oX0 m1 m2 m3 mc sc tx nr ra ru dy wa se lw), (m1, .inl (cI, 50, .inl f1)), (m2, .inl (cI, 72, .inl f2)), (m3, .inl (cJ, 30, .inr (.inl f3)))] t) (va_A [(w0, oX10 tp ts wb h ph pd ps cr lr hd pk gs), (tp, .inl (cI, 400, .inl ft)), (h, oX0 m1 m2 m3 mc sc tx nr ra ru dy wa se lw), (m1, .inl (cI, 50, .inl f1)), (m2, .inl (cI, 72, .inl f2)), (m3, .inl (cJ, 30, .inr (.inl f3)))] sz)) 0 0 (va_A [(w0, oX10 tp ts wb h ph pd ps cr lr hd pk gs), (tp, .inl (cI, 400, .inl ft)), (h, oX0 m1 m2 m3 mc sc tx nr ra ru dy wa se lw), (m1, .inl (cI, 50, .inl f1)), (m2, .inl (cI, 72, .inl f2)), (m3, .inl (cJ, 30, .inr (.inl f3)))] sz) := by
  refine Met.ofW (cc := cX10_tellsMen) (maxL := 3) (ret := (some .boolean)) (by decide) rfl ?_
  intro p e s m args below meth c s₁ B hml hv
  obtain ⟨rfl, hsz, hN, hE, hP, hK, hD0⟩ := hv
  have hx := B.exec
  have hb := B.bytes
  have hr := B.returns
  have hts := fun (w : Cond) (h : w ∈ kG) => atoms_spec (ws := kwX10_tellsMen) B.pre w (List.mem_cons_of_mem _ h)
  have hown : s.vm.findClass RX10 = some m.cls := findClass_of_methodNamed B.named
  subst hsz
  have hD := hD0.self (sz := s.heap.size)
  generalize hAe : va_A [(w0, oX10 tp ts wb h ph pd ps cr lr hd pk gs), (tp, .inl (cI, 400, .inl ft)), (h, oX0 m1 m2 m3 mc sc tx nr ra ru dy wa se lw), (m1, .inl (cI, 50, .inl f1)), (m2, .inl (cI, 72, .inl f2)), (m3, .inl (cJ, 30, .inr (.inl f3)))] s.heap.size = A at hD hE ⊢
  have hA : ∀ q : Nat, s.heap.size ≤ q → A q := fun q h => by rw [← hAe]; exact Or.inr h
  have hl := lv_entry ([.ref w0, .int a1]) (n := 3) (Nat.le_of_ble_eq_true rfl)
  rw [lg_entry_eq]
  generalize (lg_sl ([.ref w0, .int a1]) ++ List.replicate (3 - (lg_sl ([.ref w0, .int a1])).length) Slot.unset).toArray = ls at hl ⊢
  have hl : lv_has ls 3 [(0, .ref w0), (1, .int a1)] := hl
  obtain ⟨H, hH0⟩ : ∃ H, H = s.heap := ⟨_, rfl⟩
  have hS : va_S A s.heap H [] := by rw [hH0]; exact va_S.rf
  have hP : va_P D vwCl [(w0, oX10 tp ts wb h ph pd ps cr lr hd pk gs), (tp, .inl (cI, 400, .inl ft)), (h, oX0 m1 m2 m3 mc sc tx nr ra ru dy wa se lw), (m1, .inl (cI, 50, .inl f1)), (m2, .inl (cI, 72, .inl f2)), (m3, .inl (cJ, 30, .inr (.inl f3)))] H := by rw [hH0]; exact hP
  refine kHeap hH0 ?_
  clear hH0
  refine lv_iload_n hx hb dX10_tellsMen_0 rfl (lv_at hl 1 rfl) ?_
  refine lv_aload_n hx hb dX10_tellsMen_1 rfl (lv_at hl 0 rfl) ?_
  refine va_get (D := D) (ci := 9) (v := .ref h) (C := RX10) (T := TX10) (N := 12) hx hb hts iG_X10 hown hK hP 0 rfl rfl 3 (by decide) (hts _ w0_20) (fun _ h9 => h9) rfl dX10_tellsMen_2 ?_
  refine va_getN (D := D) (ci := 0) (v := .int mc) (C := RX0) (T := TX0) (N := 13) hx hb hts iG_X0 hown hK hP 2 rfl rfl 3 (by decide) (nF_3 hN) (fun _ h9 => h9) rfl dX10_tellsMen_5 ?_
  refine lv_icmp_eq (tgt := 13) hx hb dX10_tellsMen_8 (by decide) (fun c1 => ?_) (fun c1 => ?_)
  · skip
    refine lv_iconst (v := 0) hx hb dX10_tellsMen_13 (by decide) ?_
    refine lv_istore_n (lv' := [(2, .int 0), (0, .ref w0), (1, .int a1)]) hx hb dX10_tellsMen_14 rfl hl (by decide) rfl (fun ls hl => ?_)
    refine k_loop (hd := 15) (fun (y107 : Int32) => (2147483647 - (y107).toInt).toNat) (fun (y107 : Int32) (H : Heap) (locs : List Loc) (ls : Array Slot) => Rg y107 0 2147483647 ∧ va_P D vwCl [(w0, oX10 tp ts wb h ph pd ps cr lr hd pk gs), (tp, .inl (cI, 400, .inl ft)), (h, oX0 m1 m2 m3 mc sc tx nr ra ru dy wa se lw), (m1, .inl (cI, 50, .inl f1)), (m2, .inl (cI, 72, .inl f2)), (m3, .inl (cJ, 30, .inr (.inl f3)))] H ∧ va_D A [(w0, oX10 tp ts wb h ph pd ps cr lr hd pk gs), (tp, .inl (cI, 400, .inl ft)), (h, oX0 m1 m2 m3 mc sc tx nr ra ru dy wa se lw), (m1, .inl (cI, 50, .inl f1)), (m2, .inl (cI, 72, .inl f2)), (m3, .inl (cJ, 30, .inr (.inl f3)))] ∧ va_S A s.heap H locs ∧ lv_has ls 3 [(2, .int y107), (0, .ref w0), (1, .int a1)]) ((0 : Int32)) ⟨(rg_w (rg_lit (n := 0) (by decide)) (by decide)), hP.sub (ws' := [(w0, oX10 tp ts wb h ph pd ps cr lr hd pk gs), (tp, .inl (cI, 400, .inl ft)), (h, oX0 m1 m2 m3 mc sc tx nr ra ru dy wa se lw), (m1, .inl (cI, 50, .inl f1)), (m2, .inl (cI, 72, .inl f2)), (m3, .inl (cJ, 30, .inr (.inl f3)))]) [0, 1, 2, 3, 4, 5] rfl, hD.sub (ws' := [(w0, oX10 tp ts wb h ph pd ps cr lr hd pk gs), (tp, .inl (cI, 400, .inl ft)), (h, oX0 m1 m2 m3 mc sc tx nr ra ru dy wa se lw), (m1, .inl (cI, 50, .inl f1)), (m2, .inl (cI, 72, .inl f2)), (m3, .inl (cJ, 30, .inr (.inl f3)))]) [0, 1, 2, 3, 4, 5] (by decide) rfl, hS, lv_sub (l' := [(2, .int 0), (0, .ref w0), (1, .int a1)]) hl [0, 1, 2] rfl⟩ (fun u H locs ls hI ih108 => ?_)
    clear hP hD hS hl
    obtain ⟨y107, rfl⟩ : ∃ z, z = u := ⟨_, rfl⟩
    obtain ⟨hy107, hP, hD, hS, hl⟩ := hI
    have hP : va_P D vwCl [(w0, oX10 tp ts wb h ph pd ps cr lr hd pk gs), (tp, .inl (cI, 400, .inl ft)), (h, oX0 m1 m2 m3 mc sc tx nr ra ru dy wa se lw), (m1, .inl (cI, 50, .inl f1)), (m2, .inl (cI, 72, .inl f2)), (m3, .inl (cJ, 30, .inr (.inl f3)))] H := hP
    have hD : va_D A [(w0, oX10 tp ts wb h ph pd ps cr lr hd pk gs), (tp, .inl (cI, 400, .inl ft)), (h, oX0 m1 m2 m3 mc sc tx nr ra ru dy wa se lw), (m1, .inl (cI, 50, .inl f1)), (m2, .inl (cI, 72, .inl f2)), (m3, .inl (cJ, 30, .inr (.inl f3)))] := hD
    have hl : lv_has ls 3 [(2, .int y107), (0, .ref w0), (1, .int a1)] := hl
    refine lv_iload_n hx hb dX10_tellsMen_15 rfl (lv_at hl 0 rfl) ?_
    refine lv_iload_n hx hb dX10_tellsMen_16 rfl (lv_at hl 2 rfl) ?_
    refine lv_icmp_ge (tgt := 46) hx hb dX10_tellsMen_17 (by decide) (fun c109 => ?_) (fun c109 => ?_)
    · skip
      refine lv_iconst (v := 1) hx hb dX10_tellsMen_46 (by decide) ?_
      have hP9 := hP.sub (ws' := [(w0, oX10 tp ts wb h ph pd ps cr lr hd pk gs), (tp, .inl (cI, 400, .inl ft)), (h, oX0 m1 m2 m3 mc sc tx nr ra ru dy wa se lw), (m1, .inl (cI, 50, .inl f1)), (m2, .inl (cI, 72, .inl f2)), (m3, .inl (cJ, 30, .inr (.inl f3)))]) [0, 1, 2, 3, 4, 5] rfl
      have hD9 := hD.sub (ws' := [(w0, oX10 tp ts wb h ph pd ps cr lr hd pk gs), (tp, .inl (cI, 400, .inl ft)), (h, oX0 m1 m2 m3 mc sc tx nr ra ru dy wa se lw), (m1, .inl (cI, 50, .inl f1)), (m2, .inl (cI, 72, .inl f2)), (m3, .inl (cJ, 30, .inr (.inl f3)))]) [0, 1, 2, 3, 4, 5] (by decide) rfl
      exact W.zret (v := 1) hx hb hr (by decide) (fun t ht hW => ⟨⟨1, (), rfl, (Or.inr rfl), by rw [ht]; exact hP9, va_K.moved hW.alike hK, hD9⟩, hS.F ht⟩) hS.2.2 dX10_tellsMen_47
    · skip
      have k110 : Rg y107 0 2147483646 := rg_l1 (nleI c109) hy107 (rg_any a1) (by decide)
      have k111 : Rg a1 1 2147483647 := rg_l2 (nleI c109) hy107 (rg_any a1) (by decide)
      refine lv_aload_n hx hb dX10_tellsMen_20 rfl (lv_at hl 1 rfl) ?_
      refine va_get (D := D) (ci := 9) (v := .ref h) (C := RX10) (T := TX10) (N := 12) hx hb hts iG_X10 hown hK hP 0 rfl rfl 3 (by decide) (hts _ w0_20) (fun _ h9 => h9) rfl dX10_tellsMen_21 ?_
      refine lv_aload_n hx hb dX10_tellsMen_24 rfl (lv_at hl 1 rfl) ?_
      refine lv_iload_n hx hb dX10_tellsMen_25 rfl (lv_at hl 0 rfl) ?_
      refine kpurei (wc := [(w0, oX10 tp ts wb h ph pd ps cr lr hd pk gs), (tp, .inl (cI, 400, .inl ft))]) hP hD hS hA [0, 1] rfl (by decide) (fun hPc hDc hFc => va_runV (As := [.int y107]) (rest := [.ref h]) ⟨hx, hb, hml, hown, hts⟩ (z_SW_byteAt l D cI cJ cB cC w0 tp ts wb ph pd ps cr lr hd pk gs ft h y107 H.size) (cwV 1 hts gX10_tellsMen_X10_byteAt rfl rfl rfl ⟨rfl, hdX10_byteAt⟩ ⟨Nat.le_of_ble_eq_true rfl, Nat.le_of_ble_eq_true rfl⟩) ⟨kBlind, va_recv hK hPc (ci := 9) (q0 := 0) rfl rfl, fun U hU hW => ⟨rfl, by rw [hU], hN.warm hW, hE.pass hS hFc hW hU, by rw [hU]; exact hPc, va_K.moved hW.alike hK, hDc⟩⟩ rfl rfl hl.1 rfl (lv_room (Nat.le_of_ble_eq_true rfl)) dX10_tellsMen_26 ⟨Nat.le_of_ble_eq_true rfl, Nat.le_of_ble_eq_true rfl⟩) (fun r112 u H locs hw hP hS => ?_)
      refine lv_bipush (v := 48) hx hb dX10_tellsMen_29 (by decide) ?_
      refine lv_isub hx hb dX10_tellsMen_31 ?_
      refine lv_topi (fun x113 ex113 => ?_)
      clear ex113
      refine kpurei (wc := [(h, oX0 m1 m2 m3 mc sc tx nr ra ru dy wa se lw), (m1, .inl (cI, 50, .inl f1)), (m2, .inl (cI, 72, .inl f2)), (m3, .inl (cJ, 30, .inr (.inl f3)))]) hP hD hS hA [2, 3, 4, 5] rfl (by decide) (fun hPc hDc hFc => va_runVN (C := RX0) (As := [.int x113]) (rest := []) ⟨hx, hb, hml, hown, hts⟩ (z_Camp_isMan l D cI cJ cB cC h m1 m2 m3 mc sc tx nr ra ru dy wa se lw f1 f2 f3 x113 H.size) ⟨va_cnB 1 hts gX10_tellsMen_X0_isMan_n136 rfl rfl rfl (nM_58 hN) (hts _ w0_19) hdX0_isMan ⟨Nat.le_of_ble_eq_true rfl, Nat.le_of_ble_eq_true rfl⟩, hts (.instanceMethod yX0_isMan) (by decide +kernel), hts (.selects RX0 yX0_isMan yX0_isMan) (by decide +kernel)⟩ ⟨kBlind, va_recv hK hPc (ci := 0) (q0 := 0) rfl rfl, fun U hU hW => ⟨rfl, by rw [hU], hN.warm hW, hE.pass hS hFc hW hU, by rw [hU]; exact hPc, va_K.moved hW.alike hK, hDc⟩⟩ rfl rfl hl.1 rfl (lv_room (Nat.le_of_ble_eq_true rfl)) dX10_tellsMen_32 ⟨Nat.le_of_ble_eq_true rfl, Nat.le_of_ble_eq_true rfl⟩) (fun r114 u H locs hw hP hS => ?_)
      rcases hw with rfl | ⟨rfl, kc115_0, kc115_1⟩
      · skip
        refine lv_if_ne (tgt := 40) hx hb dX10_tellsMen_35 (by decide) (fun c116 => absurd (by decide) c116) (fun _ => ?_)
        refine lv_iconst (v := 0) hx hb dX10_tellsMen_38 (by decide) ?_
        have hP9 := hP.sub (ws' := [(w0, oX10 tp ts wb h ph pd ps cr lr hd pk gs), (tp, .inl (cI, 400, .inl ft)), (h, oX0 m1 m2 m3 mc sc tx nr ra ru dy wa se lw), (m1, .inl (cI, 50, .inl f1)), (m2, .inl (cI, 72, .inl f2)), (m3, .inl (cJ, 30, .inr (.inl f3)))]) [0, 1, 2, 3, 4, 5] rfl
        have hD9 := hD.sub (ws' := [(w0, oX10 tp ts wb h ph pd ps cr lr hd pk gs), (tp, .inl (cI, 400, .inl ft)), (h, oX0 m1 m2 m3 mc sc tx nr ra ru dy wa se lw), (m1, .inl (cI, 50, .inl f1)), (m2, .inl (cI, 72, .inl f2)), (m3, .inl (cJ, 30, .inr (.inl f3)))]) [0, 1, 2, 3, 4, 5] (by decide) rfl
        exact W.zret (v := 0) hx hb hr (by decide) (fun t ht hW => ⟨⟨0, (), rfl, (Or.inl rfl), by rw [ht]; exact hP9, va_K.moved hW.alike hK, hD9⟩, hS.F ht⟩) hS.2.2 dX10_tellsMen_39
      · skip
        refine lv_if_ne (tgt := 40) hx hb dX10_tellsMen_35 (by decide) (fun _ => ?_) (fun c117 => absurd c117 (by decide))
        obtain ⟨x118, ex118⟩ : ∃ y : Int32, y = y107 + 1 := ⟨_, rfl⟩
        refine lv_iinc (v := x118) (lv' := [(2, .int x118), (0, .ref w0), (1, .int a1)]) hx hb dX10_tellsMen_40 hl (k := 0) rfl (by rw [ex118]; rfl) (by decide) rfl (fun ls hl => ?_)
        have k119 : Rg x118 1 2147483647 := rg_add ex118 k110 (rg_lit (n := 1) (by decide)) (by decide)
        refine lv_goto (tgt := 15) hx hb dX10_tellsMen_43 (by decide) ?_
        exact ih108 (x118) _ _ _ (by show (2147483647 - (x118).toInt).toNat < (2147483647 - (y107).toInt).toNat; exact mu_up ex118 k110 k119 (by decide)) ⟨(rg_w k119 (by decide)), hP.sub (ws' := [(w0, oX10 tp ts wb h ph pd ps cr lr hd pk gs), (tp, .inl (cI, 400, .inl ft)), (h, oX0 m1 m2 m3 mc sc tx nr ra ru dy wa se lw), (m1, .inl (cI, 50, .inl f1)), (m2, .inl (cI, 72, .inl f2)), (m3, .inl (cJ, 30, .inr (.inl f3)))]) [0, 1, 2, 3, 4, 5] rfl, hD.sub (ws' := [(w0, oX10 tp ts wb h ph pd ps cr lr hd pk gs), (tp, .inl (cI, 400, .inl ft)), (h, oX0 m1 m2 m3 mc sc tx nr ra ru dy wa se lw), (m1, .inl (cI, 50, .inl f1)), (m2, .inl (cI, 72, .inl f2)), (m3, .inl (cJ, 30, .inr (.inl f3)))]) [0, 1, 2, 3, 4, 5] (by decide) rfl, hS, lv_sub (l' := [(2, .int x118), (0, .ref w0), (1, .int a1)]) hl [0, 1, 2] rfl⟩
  · skip
    refine lv_iconst (v := 0) hx hb dX10_tellsMen_11 (by decide) ?_
    have hP9 := hP.sub (ws' := [(w0, oX10 tp ts wb h ph pd ps cr lr hd pk gs), (tp, .inl (cI, 400, .inl ft)), (h, oX0 m1 m2 m3 mc sc tx nr ra ru dy wa se lw), (m1, .inl (cI, 50, .inl f1)), (m2, .inl (cI, 72, .inl f2)), (m3, .inl (cJ, 30, .inr (.inl f3)))]) [0, 1, 2, 3, 4, 5] rfl
    have hD9 := hD.sub (ws' := [(w0, oX10 tp ts wb h ph pd ps cr lr hd pk gs), (tp, .inl (cI, 400, .inl ft)), (h, oX0 m1 m2 m3 mc sc tx nr ra ru dy wa se lw), (m1, .inl (cI, 50, .inl f1)), (m2, .inl (cI, 72, .inl f2)), (m3, .inl (cJ, 30, .inr (.inl f3)))]) [0, 1, 2, 3, 4, 5] (by decide) rfl
    exact W.zret (v := 0) hx hb hr (by decide) (fun t ht hW => ⟨⟨0, (), rfl, (Or.inl rfl), by rw [ht]; exact hP9, va_K.moved hW.alike hK, hD9⟩, hS.F ht⟩) hS.2.2 dX10_tellsMen_12

def kwX10_tellsBitsOfShirts : List Cond := .code yX10_tellsBitsOfShirts cX10_tellsBitsOfShirts 3 (some .boolean) :: kG
theorem hdX10_tellsBitsOfShirts : yX10_tellsBitsOfShirts.cls ≠ "java/lang/invoke/MethodHandle" ∧ yX10_tellsBitsOfShirts.cls ≠ "java/lang/invoke/VarHandle" ∧ (parseMethodDescriptor yX10_tellsBitsOfShirts.desc).map (fun d => d.parameters.length) = some 1 := by decide +kernel
theorem gX10_tellsBitsOfShirts_X10_pairAt : GoodIn kG (wsV RX10 287 RX10 yX10_pairAt kwX10_pairAt) := gK w48_13 (gK w48_14 (gK w48_15 (gK w0_2 (gK w48_16 gGG))))
theorem dX10_tellsBitsOfShirts_0 : decode cX10_tellsBitsOfShirts 0 = .ok (.iconst 0, 1) := by decide +kernel
theorem dX10_tellsBitsOfShirts_1 : decode cX10_tellsBitsOfShirts 1 = .ok (.istore_n 2, 1) := by decide +kernel
theorem dX10_tellsBitsOfShirts_2 : decode cX10_tellsBitsOfShirts 2 = .ok (.iload_n 2, 1) := by decide +kernel
theorem dX10_tellsBitsOfShirts_3 : decode cX10_tellsBitsOfShirts 3 = .ok (.iconst 1, 1) := by decide +kernel
theorem dX10_tellsBitsOfShirts_4 : decode cX10_tellsBitsOfShirts 4 = .ok (.iadd, 1) := by decide +kernel
theorem dX10_tellsBitsOfShirts_5 : decode cX10_tellsBitsOfShirts 5 = .ok (.iload_n 1, 1) := by decide +kernel
theorem dX10_tellsBitsOfShirts_6 : decode cX10_tellsBitsOfShirts 6 = .ok (.if_icmp .ge 27, 3) := by decide +kernel
theorem dX10_tellsBitsOfShirts_9 : decode cX10_tellsBitsOfShirts 9 = .ok (.aload_n 0, 1) := by decide +kernel
theorem dX10_tellsBitsOfShirts_10 : decode cX10_tellsBitsOfShirts 10 = .ok (.iload_n 2, 1) := by decide +kernel
theorem dX10_tellsBitsOfShirts_11 : decode cX10_tellsBitsOfShirts 11 = .ok (.invokevirtual 287, 3) := by decide +kernel
theorem dX10_tellsBitsOfShirts_14 : decode cX10_tellsBitsOfShirts 14 = .ok (.aload_n 0, 1) := by decide +kernel
theorem dX10_tellsBitsOfShirts_15 : decode cX10_tellsBitsOfShirts 15 = .ok (.getfield 23, 3) := by decide +kernel
theorem dX10_tellsBitsOfShirts_18 : decode cX10_tellsBitsOfShirts 18 = .ok (.getfield 222, 3) := by decide +kernel
theorem dX10_tellsBitsOfShirts_21 : decode cX10_tellsBitsOfShirts 21 = .ok (.ishr, 1) := by decide +kernel
theorem dX10_tellsBitsOfShirts_22 : decode cX10_tellsBitsOfShirts 22 = .ok (.ifCond .eq 5, 3) := by decide +kernel
theorem dX10_tellsBitsOfShirts_25 : decode cX10_tellsBitsOfShirts 25 = .ok (.iconst 0, 1) := by decide +kernel
theorem dX10_tellsBitsOfShirts_26 : decode cX10_tellsBitsOfShirts 26 = .ok (.ireturn, 1) := by decide +kernel
theorem dX10_tellsBitsOfShirts_27 : decode cX10_tellsBitsOfShirts 27 = .ok (.iinc 2 2, 3) := by decide +kernel
theorem dX10_tellsBitsOfShirts_30 : decode cX10_tellsBitsOfShirts 30 = .ok (.goto (-28), 3) := by decide +kernel
theorem dX10_tellsBitsOfShirts_33 : decode cX10_tellsBitsOfShirts 33 = .ok (.iconst 1, 1) := by decide +kernel
theorem dX10_tellsBitsOfShirts_34 : decode cX10_tellsBitsOfShirts 34 = .ok (.ireturn, 1) := by decide +kernel
set_option maxHeartbeats 4000000 in
set_option maxRecDepth 100000 in
/-- ShirtWash.tellsBitsOfShirts -/
theorem z_SW_tellsBitsOfShirts (l : Launch) (D : va_G) (cI cJ cB cC : ClassId) (w0 : Nat) (tp : Nat) (ts : Int32) (wb : Int32) (ph : Nat) (pd : Int32) (ps : Nat) (cr : Nat) (lr : Nat) (hd : Nat) (pk : Nat) (gs : Nat) (ft : Nat → Int32) (h : Nat) (m1 : Nat) (m2 : Nat) (m3 : Nat) (mc : Int32) (sc : Int32) (tx : Int32) (nr : Int32) (ra : Int32) (ru : Int32) (dy : Int32) (wa : Int32) (se : Int32) (lw : Option Nat) (f1 : Nat → Int32) (f2 : Nat → Int32) (f3 : Nat → Int64) (a1 : Int32) (sz : Nat) (H_a1 : Rg a1 0 400) : Met l yX10_tellsBitsOfShirts kwX10_tellsBitsOfShirts ({ frames := 3, cells := 0, slots := 0, locals := 63 } : Room) (kPre D (kT cI cJ cB cC) sz [(w0, oX10 tp ts wb h ph pd ps cr lr hd pk gs), (tp, .inl (cI, 400, .inl ft)), (h, oX0 m1 m2 m3 mc sc tx nr ra ru dy wa se lw), (m1, .inl (cI, 50, .inl f1)), (m2, .inl (cI, 72, .inl f2)), (m3, .inl (cJ, 30, .inr (.inl f3)))] [.ref w0, .int a1]) (va_Qi (fun (r : Int32) (_ : Unit) => (r = 0 ∧ Rg a1 2 400) ∨ (r = 1)) (fun (_ : Unit) (t : State) => kB D (kT cI cJ cB cC) (va_A [(w0, oX10 tp ts wb h ph pd ps cr lr hd pk gs), (tp, .inl (cI, 400, .inl ft)), (h, oX0 m1 m2 m3 mc sc tx nr ra ru dy wa se lw), (m1, .inl (cI, 50, .inl f1)), (m2, .inl (cI, 72, .inl f2)), (m3, .inl (cJ, 30, .inr (.inl f3)))] sz) [(w0, oX10 tp ts wb h ph pd ps cr lr hd pk gs), (tp, .inl (cI, 400, .inl ft)), (h, oX0 m1 m2 m3 mc sc tx nr ra ru dy wa se lw), (m1, .inl (cI, 50, .inl f1)), (m2, .inl (cI, 72, .inl f2)), (m3, .inl (cJ, 30, .inr (.inl f3)))] t) (va_A [(w0, oX10 tp ts wb h ph pd ps cr lr hd pk gs), (tp, .inl (cI, 400, .inl ft)), (h, oX0 m1 m2 m3 mc sc tx nr ra ru dy wa se lw), (m1, .inl (cI, 50, .inl f1)), (m2, .inl (cI, 72, .inl f2)), (m3, .inl (cJ, 30, .inr (.inl f3)))] sz)) 0 0 (va_A [(w0, oX10 tp ts wb h ph pd ps cr lr hd pk gs), (tp, .inl (cI, 400, .inl ft)), (h, oX0 m1 m2 m3 mc sc tx nr ra ru dy wa se lw), (m1, .inl (cI, 50, .inl f1)), (m2, .inl (cI, 72, .inl f2)), (m3, .inl (cJ, 30, .inr (.inl f3)))] sz) := by
  refine Met.ofW (cc := cX10_tellsBitsOfShirts) (maxL := 3) (ret := (some .boolean)) (by decide) rfl ?_
  intro p e s m args below meth c s₁ B hml hv
  obtain ⟨rfl, hsz, hN, hE, hP, hK, hD0⟩ := hv
  have hx := B.exec
  have hb := B.bytes
  have hr := B.returns
  have hts := fun (w : Cond) (h : w ∈ kG) => atoms_spec (ws := kwX10_tellsBitsOfShirts) B.pre w (List.mem_cons_of_mem _ h)
  have hown : s.vm.findClass RX10 = some m.cls := findClass_of_methodNamed B.named
  subst hsz
  have hD := hD0.self (sz := s.heap.size)
  generalize hAe : va_A [(w0, oX10 tp ts wb h ph pd ps cr lr hd pk gs), (tp, .inl (cI, 400, .inl ft)), (h, oX0 m1 m2 m3 mc sc tx nr ra ru dy wa se lw), (m1, .inl (cI, 50, .inl f1)), (m2, .inl (cI, 72, .inl f2)), (m3, .inl (cJ, 30, .inr (.inl f3)))] s.heap.size = A at hD hE ⊢
  have hA : ∀ q : Nat, s.heap.size ≤ q → A q := fun q h => by rw [← hAe]; exact Or.inr h
  have hl := lv_entry ([.ref w0, .int a1]) (n := 3) (Nat.le_of_ble_eq_true rfl)
  rw [lg_entry_eq]
  generalize (lg_sl ([.ref w0, .int a1]) ++ List.replicate (3 - (lg_sl ([.ref w0, .int a1])).length) Slot.unset).toArray = ls at hl ⊢
  have hl : lv_has ls 3 [(0, .ref w0), (1, .int a1)] := hl
  obtain ⟨H, hH0⟩ : ∃ H, H = s.heap := ⟨_, rfl⟩
  have hS : va_S A s.heap H [] := by rw [hH0]; exact va_S.rf
  have hP : va_P D vwCl [(w0, oX10 tp ts wb h ph pd ps cr lr hd pk gs), (tp, .inl (cI, 400, .inl ft)), (h, oX0 m1 m2 m3 mc sc tx nr ra ru dy wa se lw), (m1, .inl (cI, 50, .inl f1)), (m2, .inl (cI, 72, .inl f2)), (m3, .inl (cJ, 30, .inr (.inl f3)))] H := by rw [hH0]; exact hP
  refine kHeap hH0 ?_
  clear hH0
  refine lv_iconst (v := 0) hx hb dX10_tellsBitsOfShirts_0 (by decide) ?_
  refine lv_istore_n (lv' := [(2, .int 0), (0, .ref w0), (1, .int a1)]) hx hb dX10_tellsBitsOfShirts_1 rfl hl (by decide) rfl (fun ls hl => ?_)
  refine k_loop (hd := 2) (fun (y201 : Int32) => (400 - (y201).toInt).toNat) (fun (y201 : Int32) (H : Heap) (locs : List Loc) (ls : Array Slot) => Rg y201 0 400 ∧ va_P D vwCl [(w0, oX10 tp ts wb h ph pd ps cr lr hd pk gs), (tp, .inl (cI, 400, .inl ft)), (h, oX0 m1 m2 m3 mc sc tx nr ra ru dy wa se lw), (m1, .inl (cI, 50, .inl f1)), (m2, .inl (cI, 72, .inl f2)), (m3, .inl (cJ, 30, .inr (.inl f3)))] H ∧ va_D A [(w0, oX10 tp ts wb h ph pd ps cr lr hd pk gs), (tp, .inl (cI, 400, .inl ft)), (h, oX0 m1 m2 m3 mc sc tx nr ra ru dy wa se lw), (m1, .inl (cI, 50, .inl f1)), (m2, .inl (cI, 72, .inl f2)), (m3, .inl (cJ, 30, .inr (.inl f3)))] ∧ va_S A s.heap H locs ∧ lv_has ls 3 [(2, .int y201), (0, .ref w0), (1, .int a1)]) ((0 : Int32)) ⟨(rg_w (rg_lit (n := 0) (by decide)) (by decide)), hP.sub (ws' := [(w0, oX10 tp ts wb h ph pd ps cr lr hd pk gs), (tp, .inl (cI, 400, .inl ft)), (h, oX0 m1 m2 m3 mc sc tx nr ra ru dy wa se lw), (m1, .inl (cI, 50, .inl f1)), (m2, .inl (cI, 72, .inl f2)), (m3, .inl (cJ, 30, .inr (.inl f3)))]) [0, 1, 2, 3, 4, 5] rfl, hD.sub (ws' := [(w0, oX10 tp ts wb h ph pd ps cr lr hd pk gs), (tp, .inl (cI, 400, .inl ft)), (h, oX0 m1 m2 m3 mc sc tx nr ra ru dy wa se lw), (m1, .inl (cI, 50, .inl f1)), (m2, .inl (cI, 72, .inl f2)), (m3, .inl (cJ, 30, .inr (.inl f3)))]) [0, 1, 2, 3, 4, 5] (by decide) rfl, hS, lv_sub (l' := [(2, .int 0), (0, .ref w0), (1, .int a1)]) hl [0, 1, 2] rfl⟩ (fun u H locs ls hI ih202 => ?_)
  clear hP hD hS hl
  obtain ⟨y201, rfl⟩ : ∃ z, z = u := ⟨_, rfl⟩
  obtain ⟨hy201, hP, hD, hS, hl⟩ := hI
  have hP : va_P D vwCl [(w0, oX10 tp ts wb h ph pd ps cr lr hd pk gs), (tp, .inl (cI, 400, .inl ft)), (h, oX0 m1 m2 m3 mc sc tx nr ra ru dy wa se lw), (m1, .inl (cI, 50, .inl f1)), (m2, .inl (cI, 72, .inl f2)), (m3, .inl (cJ, 30, .inr (.inl f3)))] H := hP
  have hD : va_D A [(w0, oX10 tp ts wb h ph pd ps cr lr hd pk gs), (tp, .inl (cI, 400, .inl ft)), (h, oX0 m1 m2 m3 mc sc tx nr ra ru dy wa se lw), (m1, .inl (cI, 50, .inl f1)), (m2, .inl (cI, 72, .inl f2)), (m3, .inl (cJ, 30, .inr (.inl f3)))] := hD
  have hl : lv_has ls 3 [(2, .int y201), (0, .ref w0), (1, .int a1)] := hl
  refine lv_iload_n hx hb dX10_tellsBitsOfShirts_2 rfl (lv_at hl 0 rfl) ?_
  refine lv_iconst (v := 1) hx hb dX10_tellsBitsOfShirts_3 (by decide) ?_
  refine lv_iadd hx hb dX10_tellsBitsOfShirts_4 ?_
  refine lv_topi (fun x203 ex203 => ?_)
  have k204 : Rg x203 1 401 := rg_add ex203 hy201 (rg_lit (n := 1) (by decide)) (by decide)
  refine lv_iload_n hx hb dX10_tellsBitsOfShirts_5 rfl (lv_at hl 2 rfl) ?_
  refine lv_icmp_ge (tgt := 33) hx hb dX10_tellsBitsOfShirts_6 (by decide) (fun c205 => ?_) (fun c205 => ?_)
  · skip
    refine lv_iconst (v := 1) hx hb dX10_tellsBitsOfShirts_33 (by decide) ?_
    have hP9 := hP.sub (ws' := [(w0, oX10 tp ts wb h ph pd ps cr lr hd pk gs), (tp, .inl (cI, 400, .inl ft)), (h, oX0 m1 m2 m3 mc sc tx nr ra ru dy wa se lw), (m1, .inl (cI, 50, .inl f1)), (m2, .inl (cI, 72, .inl f2)), (m3, .inl (cJ, 30, .inr (.inl f3)))]) [0, 1, 2, 3, 4, 5] rfl
    have hD9 := hD.sub (ws' := [(w0, oX10 tp ts wb h ph pd ps cr lr hd pk gs), (tp, .inl (cI, 400, .inl ft)), (h, oX0 m1 m2 m3 mc sc tx nr ra ru dy wa se lw), (m1, .inl (cI, 50, .inl f1)), (m2, .inl (cI, 72, .inl f2)), (m3, .inl (cJ, 30, .inr (.inl f3)))]) [0, 1, 2, 3, 4, 5] (by decide) rfl
    exact W.zret (v := 1) hx hb hr (by decide) (fun t ht hW => ⟨⟨1, (), rfl, (Or.inr rfl), by rw [ht]; exact hP9, va_K.moved hW.alike hK, hD9⟩, hS.F ht⟩) hS.2.2 dX10_tellsBitsOfShirts_34
  · skip
    have k206 : Rg x203 1 399 := rg_l1 (nleI c205) k204 H_a1 (by decide)
    have k207 : Rg y201 0 398 := rg_back ex203 hy201 k206 (by decide)
    have k208 : Rg a1 2 400 := rg_l2 (nleI c205) k204 H_a1 (by decide)
    refine lv_aload_n hx hb dX10_tellsBitsOfShirts_9 rfl (lv_at hl 1 rfl) ?_
    refine lv_iload_n hx hb dX10_tellsBitsOfShirts_10 rfl (lv_at hl 0 rfl) ?_
    refine kpurei (wc := [(w0, oX10 tp ts wb h ph pd ps cr lr hd pk gs), (tp, .inl (cI, 400, .inl ft))]) hP hD hS hA [0, 1] rfl (by decide) (fun hPc hDc hFc => va_runV (As := [.int y201]) (rest := []) ⟨hx, hb, hml, hown, hts⟩ (z_SW_pairAt l D cI cJ cB cC w0 tp ts wb ph pd ps cr lr hd pk gs ft h y201 H.size) (cwV 1 hts gX10_tellsBitsOfShirts_X10_pairAt rfl rfl rfl ⟨rfl, hdX10_pairAt⟩ ⟨Nat.le_of_ble_eq_true rfl, Nat.le_of_ble_eq_true rfl⟩) ⟨kBlind, va_recv hK hPc (ci := 9) (q0 := 0) rfl rfl, fun U hU hW => ⟨rfl, by rw [hU], hN.warm hW, hE.pass hS hFc hW hU, by rw [hU]; exact hPc, va_K.moved hW.alike hK, hDc⟩⟩ rfl rfl hl.1 rfl (lv_room (Nat.le_of_ble_eq_true rfl)) dX10_tellsBitsOfShirts_11 ⟨Nat.le_of_ble_eq_true rfl, Nat.le_of_ble_eq_true rfl⟩) (fun r209 u H locs hw hP hS => ?_)
    refine lv_aload_n hx hb dX10_tellsBitsOfShirts_14 rfl (lv_at hl 1 rfl) ?_
    refine va_get (D := D) (ci := 9) (v := .ref h) (C := RX10) (T := TX10) (N := 12) hx hb hts iG_X10 hown hK hP 0 rfl rfl 3 (by decide) (hts _ w0_20) (fun _ h9 => h9) rfl dX10_tellsBitsOfShirts_15 ?_
    refine va_getN (D := D) (ci := 0) (v := .int sc) (C := RX0) (T := TX0) (N := 13) hx hb hts iG_X0 hown hK hP 2 rfl rfl 4 (by decide) (nF_7 hN) (fun _ h9 => h9) rfl dX10_tellsBitsOfShirts_18 ?_
    refine lv_ishr hx hb dX10_tellsBitsOfShirts_21 ?_
    refine lv_topi (fun x210 ex210 => ?_)
    clear ex210
    refine lv_if_eq (tgt := 27) hx hb dX10_tellsBitsOfShirts_22 (by decide) (fun c211 => ?_) (fun c211 => ?_)
    · skip
      have k212 : Rg x210 0 0 := rg_q1 (eqI c211) (rg_any x210) (rg_lit (n := 0) (by decide)) (by decide)
      obtain ⟨x213, ex213⟩ : ∃ y : Int32, y = y201 + 2 := ⟨_, rfl⟩
      refine lv_iinc (v := x213) (lv' := [(2, .int x213), (0, .ref w0), (1, .int a1)]) hx hb dX10_tellsBitsOfShirts_27 hl (k := 0) rfl (by rw [ex213]; rfl) (by decide) rfl (fun ls hl => ?_)
      have k214 : Rg x213 2 400 := rg_add ex213 k207 (rg_lit (n := 2) (by decide)) (by decide)
      refine lv_goto (tgt := 2) hx hb dX10_tellsBitsOfShirts_30 (by decide) ?_
      exact ih202 (x213) _ _ _ (by show (400 - (x213).toInt).toNat < (400 - (y201).toInt).toNat; exact mu_up ex213 k207 k214 (by decide)) ⟨(rg_w k214 (by decide)), hP.sub (ws' := [(w0, oX10 tp ts wb h ph pd ps cr lr hd pk gs), (tp, .inl (cI, 400, .inl ft)), (h, oX0 m1 m2 m3 mc sc tx nr ra ru dy wa se lw), (m1, .inl (cI, 50, .inl f1)), (m2, .inl (cI, 72, .inl f2)), (m3, .inl (cJ, 30, .inr (.inl f3)))]) [0, 1, 2, 3, 4, 5] rfl, hD.sub (ws' := [(w0, oX10 tp ts wb h ph pd ps cr lr hd pk gs), (tp, .inl (cI, 400, .inl ft)), (h, oX0 m1 m2 m3 mc sc tx nr ra ru dy wa se lw), (m1, .inl (cI, 50, .inl f1)), (m2, .inl (cI, 72, .inl f2)), (m3, .inl (cJ, 30, .inr (.inl f3)))]) [0, 1, 2, 3, 4, 5] (by decide) rfl, hS, lv_sub (l' := [(2, .int x213), (0, .ref w0), (1, .int a1)]) hl [0, 1, 2] rfl⟩
    · skip
      refine lv_iconst (v := 0) hx hb dX10_tellsBitsOfShirts_25 (by decide) ?_
      have hP9 := hP.sub (ws' := [(w0, oX10 tp ts wb h ph pd ps cr lr hd pk gs), (tp, .inl (cI, 400, .inl ft)), (h, oX0 m1 m2 m3 mc sc tx nr ra ru dy wa se lw), (m1, .inl (cI, 50, .inl f1)), (m2, .inl (cI, 72, .inl f2)), (m3, .inl (cJ, 30, .inr (.inl f3)))]) [0, 1, 2, 3, 4, 5] rfl
      have hD9 := hD.sub (ws' := [(w0, oX10 tp ts wb h ph pd ps cr lr hd pk gs), (tp, .inl (cI, 400, .inl ft)), (h, oX0 m1 m2 m3 mc sc tx nr ra ru dy wa se lw), (m1, .inl (cI, 50, .inl f1)), (m2, .inl (cI, 72, .inl f2)), (m3, .inl (cJ, 30, .inr (.inl f3)))]) [0, 1, 2, 3, 4, 5] (by decide) rfl
      exact W.zret (v := 0) hx hb hr (by decide) (fun t ht hW => ⟨⟨0, (), rfl, (Or.inl ⟨rfl, k208⟩), by rw [ht]; exact hP9, va_K.moved hW.alike hK, hD9⟩, hS.F ht⟩) hS.2.2 dX10_tellsBitsOfShirts_26

def kwX10_isStained : List Cond := .code yX10_isStained cX10_isStained 4 (some .boolean) :: kG
theorem hdX10_isStained : yX10_isStained.cls ≠ "java/lang/invoke/MethodHandle" ∧ yX10_isStained.cls ≠ "java/lang/invoke/VarHandle" ∧ (parseMethodDescriptor yX10_isStained.desc).map (fun d => d.parameters.length) = some 2 := by decide +kernel
theorem gX10_isStained_X0_ofShirt_n165 : GoodIn kG (kwX0_ofShirt) := gK w15_13 gGG
theorem gX10_isStained_X0_takesColourOf_n359 : GoodIn kG (kwX0_takesColourOf) := gK w37_6 gGG
theorem gX10_isStained_X10_shirtAt : GoodIn kG (wsV RX10 356 RX10 yX10_shirtAt kwX10_shirtAt) := gK w36_11 (gK w36_12 (gK w36_13 (gK w0_2 (gK w36_14 gGG))))
theorem dX10_isStained_0 : decode cX10_isStained 0 = .ok (.aload_n 0, 1) := by decide +kernel
theorem dX10_isStained_1 : decode cX10_isStained 1 = .ok (.iload_n 1, 1) := by decide +kernel
theorem dX10_isStained_2 : decode cX10_isStained 2 = .ok (.invokevirtual 356, 3) := by decide +kernel
theorem dX10_isStained_5 : decode cX10_isStained 5 = .ok (.istore_n 3, 1) := by decide +kernel
theorem dX10_isStained_6 : decode cX10_isStained 6 = .ok (.aload_n 0, 1) := by decide +kernel
theorem dX10_isStained_7 : decode cX10_isStained 7 = .ok (.getfield 23, 3) := by decide +kernel
theorem dX10_isStained_10 : decode cX10_isStained 10 = .ok (.iload_n 3, 1) := by decide +kernel
theorem dX10_isStained_11 : decode cX10_isStained 11 = .ok (.iconst 0, 1) := by decide +kernel
theorem dX10_isStained_12 : decode cX10_isStained 12 = .ok (.invokevirtual 165, 3) := by decide +kernel
theorem dX10_isStained_15 : decode cX10_isStained 15 = .ok (.ifCond .eq 5, 3) := by decide +kernel
theorem dX10_isStained_18 : decode cX10_isStained 18 = .ok (.iconst 0, 1) := by decide +kernel
theorem dX10_isStained_19 : decode cX10_isStained 19 = .ok (.ireturn, 1) := by decide +kernel
theorem dX10_isStained_20 : decode cX10_isStained 20 = .ok (.iload_n 1, 1) := by decide +kernel
theorem dX10_isStained_21 : decode cX10_isStained 21 = .ok (.ifCond .le 21, 3) := by decide +kernel
theorem dX10_isStained_24 : decode cX10_isStained 24 = .ok (.aload_n 0, 1) := by decide +kernel
theorem dX10_isStained_25 : decode cX10_isStained 25 = .ok (.getfield 23, 3) := by decide +kernel
theorem dX10_isStained_28 : decode cX10_isStained 28 = .ok (.iload_n 3, 1) := by decide +kernel
theorem dX10_isStained_29 : decode cX10_isStained 29 = .ok (.aload_n 0, 1) := by decide +kernel
theorem dX10_isStained_30 : decode cX10_isStained 30 = .ok (.iload_n 1, 1) := by decide +kernel
theorem dX10_isStained_31 : decode cX10_isStained 31 = .ok (.iconst 1, 1) := by decide +kernel
theorem dX10_isStained_32 : decode cX10_isStained 32 = .ok (.isub, 1) := by decide +kernel
theorem dX10_isStained_33 : decode cX10_isStained 33 = .ok (.invokevirtual 356, 3) := by decide +kernel
theorem dX10_isStained_36 : decode cX10_isStained 36 = .ok (.invokevirtual 359, 3) := by decide +kernel
theorem dX10_isStained_39 : decode cX10_isStained 39 = .ok (.ifCond .ne 28, 3) := by decide +kernel
theorem dX10_isStained_42 : decode cX10_isStained 42 = .ok (.iload_n 1, 1) := by decide +kernel
theorem dX10_isStained_43 : decode cX10_isStained 43 = .ok (.iconst 1, 1) := by decide +kernel
theorem dX10_isStained_44 : decode cX10_isStained 44 = .ok (.iadd, 1) := by decide +kernel
theorem dX10_isStained_45 : decode cX10_isStained 45 = .ok (.iload_n 2, 1) := by decide +kernel
theorem dX10_isStained_46 : decode cX10_isStained 46 = .ok (.if_icmp .ge 25, 3) := by decide +kernel
theorem dX10_isStained_49 : decode cX10_isStained 49 = .ok (.aload_n 0, 1) := by decide +kernel
theorem dX10_isStained_50 : decode cX10_isStained 50 = .ok (.getfield 23, 3) := by decide +kernel
theorem dX10_isStained_53 : decode cX10_isStained 53 = .ok (.iload_n 3, 1) := by decide +kernel
theorem dX10_isStained_54 : decode cX10_isStained 54 = .ok (.aload_n 0, 1) := by decide +kernel
theorem dX10_isStained_55 : decode cX10_isStained 55 = .ok (.iload_n 1, 1) := by decide +kernel
theorem dX10_isStained_56 : decode cX10_isStained 56 = .ok (.iconst 1, 1) := by decide +kernel
theorem dX10_isStained_57 : decode cX10_isStained 57 = .ok (.iadd, 1) := by decide +kernel
theorem dX10_isStained_58 : decode cX10_isStained 58 = .ok (.invokevirtual 356, 3) := by decide +kernel
theorem dX10_isStained_61 : decode cX10_isStained 61 = .ok (.invokevirtual 359, 3) := by decide +kernel
theorem dX10_isStained_64 : decode cX10_isStained 64 = .ok (.ifCond .eq 7, 3) := by decide +kernel
theorem dX10_isStained_67 : decode cX10_isStained 67 = .ok (.iconst 1, 1) := by decide +kernel
theorem dX10_isStained_68 : decode cX10_isStained 68 = .ok (.goto 4, 3) := by decide +kernel
theorem dX10_isStained_71 : decode cX10_isStained 71 = .ok (.iconst 0, 1) := by decide +kernel
theorem dX10_isStained_72 : decode cX10_isStained 72 = .ok (.ireturn, 1) := by decide +kernel
set_option maxHeartbeats 4000000 in
set_option maxRecDepth 100000 in
/-- ShirtWash.isStained -/
theorem z_SW_isStained (l : Launch) (D : va_G) (cI cJ cB cC : ClassId) (w0 : Nat) (tp : Nat) (ts : Int32) (wb : Int32) (ph : Nat) (pd : Int32) (ps : Nat) (cr : Nat) (lr : Nat) (hd : Nat) (pk : Nat) (gs : Nat) (ft : Nat → Int32) (h : Nat) (m1 : Nat) (m2 : Nat) (m3 : Nat) (mc : Int32) (sc : Int32) (tx : Int32) (nr : Int32) (ra : Int32) (ru : Int32) (dy : Int32) (wa : Int32) (se : Int32) (lw : Option Nat) (f1 : Nat → Int32) (f2 : Nat → Int32) (f3 : Nat → Int64) (a1 : Int32) (b1 : Int32) (sz : Nat) (H_a1 : Rg a1 0 400) : Met l yX10_isStained kwX10_isStained ({ frames := 3, cells := 0, slots := 0, locals := 68 } : Room) (kPre D (kT cI cJ cB cC) sz [(w0, oX10 tp ts wb h ph pd ps cr lr hd pk gs), (tp, .inl (cI, 400, .inl ft)), (h, oX0 m1 m2 m3 mc sc tx nr ra ru dy wa se lw), (m1, .inl (cI, 50, .inl f1)), (m2, .inl (cI, 72, .inl f2)), (m3, .inl (cJ, 30, .inr (.inl f3)))] [.ref w0, .int a1, .int b1]) (va_Qi (fun (r : Int32) (uu : Int32 × (Nat → Int32)) => match uu with | (n0_, f1_) => (r = 0) ∨ (r = 1)) (fun (uu : Int32 × (Nat → Int32)) (t : State) => match uu with | (n0_, f1_) => kB D (kT cI cJ cB cC) (va_A [(w0, oX10 tp ts wb h ph pd ps cr lr hd pk gs), (tp, .inl (cI, 400, .inl ft)), (h, oX0 m1 m2 m3 mc sc tx nr ra ru dy wa se lw), (m1, .inl (cI, 50, .inl f1)), (m2, .inl (cI, 72, .inl f2)), (m3, .inl (cJ, 30, .inr (.inl f3)))] sz) [(w0, oX10 tp ts wb h ph pd ps cr lr hd pk gs), (tp, .inl (cI, 400, .inl ft)), (h, oX0 m1 m2 m3 mc sc tx nr ra ru dy wa n0_ lw), (m1, .inl (cI, 50, .inl f1)), (m2, .inl (cI, 72, .inl f1_)), (m3, .inl (cJ, 30, .inr (.inl f3)))] t) (va_A [(w0, oX10 tp ts wb h ph pd ps cr lr hd pk gs), (tp, .inl (cI, 400, .inl ft)), (h, oX0 m1 m2 m3 mc sc tx nr ra ru dy wa se lw), (m1, .inl (cI, 50, .inl f1)), (m2, .inl (cI, 72, .inl f2)), (m3, .inl (cJ, 30, .inr (.inl f3)))] sz)) 0 0 (va_A [(w0, oX10 tp ts wb h ph pd ps cr lr hd pk gs), (tp, .inl (cI, 400, .inl ft)), (h, oX0 m1 m2 m3 mc sc tx nr ra ru dy wa se lw), (m1, .inl (cI, 50, .inl f1)), (m2, .inl (cI, 72, .inl f2)), (m3, .inl (cJ, 30, .inr (.inl f3)))] sz) := by
  refine Met.ofW (cc := cX10_isStained) (maxL := 4) (ret := (some .boolean)) (by decide) rfl ?_
  intro p e s m args below meth c s₁ B hml hv
  obtain ⟨rfl, hsz, hN, hE, hP, hK, hD0⟩ := hv
  have hx := B.exec
  have hb := B.bytes
  have hr := B.returns
  have hts := fun (w : Cond) (h : w ∈ kG) => atoms_spec (ws := kwX10_isStained) B.pre w (List.mem_cons_of_mem _ h)
  have hown : s.vm.findClass RX10 = some m.cls := findClass_of_methodNamed B.named
  subst hsz
  have hD := hD0.self (sz := s.heap.size)
  generalize hAe : va_A [(w0, oX10 tp ts wb h ph pd ps cr lr hd pk gs), (tp, .inl (cI, 400, .inl ft)), (h, oX0 m1 m2 m3 mc sc tx nr ra ru dy wa se lw), (m1, .inl (cI, 50, .inl f1)), (m2, .inl (cI, 72, .inl f2)), (m3, .inl (cJ, 30, .inr (.inl f3)))] s.heap.size = A at hD hE ⊢
  have hA : ∀ q : Nat, s.heap.size ≤ q → A q := fun q h => by rw [← hAe]; exact Or.inr h
  have hl := lv_entry ([.ref w0, .int a1, .int b1]) (n := 4) (Nat.le_of_ble_eq_true rfl)
  rw [lg_entry_eq]
  generalize (lg_sl ([.ref w0, .int a1, .int b1]) ++ List.replicate (4 - (lg_sl ([.ref w0, .int a1, .int b1])).length) Slot.unset).toArray = ls at hl ⊢
  have hl : lv_has ls 4 [(0, .ref w0), (1, .int a1), (2, .int b1)] := hl
  obtain ⟨H, hH0⟩ : ∃ H, H = s.heap := ⟨_, rfl⟩
  have hS : va_S A s.heap H [] := by rw [hH0]; exact va_S.rf
  have hP : va_P D vwCl [(w0, oX10 tp ts wb h ph pd ps cr lr hd pk gs), (tp, .inl (cI, 400, .inl ft)), (h, oX0 m1 m2 m3 mc sc tx nr ra ru dy wa se lw), (m1, .inl (cI, 50, .inl f1)), (m2, .inl (cI, 72, .inl f2)), (m3, .inl (cJ, 30, .inr (.inl f3)))] H := by rw [hH0]; exact hP
  refine kHeap hH0 ?_
  clear hH0
  refine lv_aload_n hx hb dX10_isStained_0 rfl (lv_at hl 0 rfl) ?_
  refine lv_iload_n hx hb dX10_isStained_1 rfl (lv_at hl 1 rfl) ?_
  refine kpurei (wc := [(w0, oX10 tp ts wb h ph pd ps cr lr hd pk gs), (tp, .inl (cI, 400, .inl ft))]) hP hD hS hA [0, 1] rfl (by decide) (fun hPc hDc hFc => va_runV (As := [.int a1]) (rest := []) ⟨hx, hb, hml, hown, hts⟩ (z_SW_shirtAt l D cI cJ cB cC w0 tp ts wb ph pd ps cr lr hd pk gs ft h a1 H.size) (cwV 1 hts gX10_isStained_X10_shirtAt rfl rfl rfl ⟨rfl, hdX10_shirtAt⟩ ⟨Nat.le_of_ble_eq_true rfl, Nat.le_of_ble_eq_true rfl⟩) ⟨kBlind, va_recv hK hPc (ci := 9) (q0 := 0) rfl rfl, fun U hU hW => ⟨rfl, by rw [hU], hN.warm hW, hE.pass hS hFc hW hU, by rw [hU]; exact hPc, va_K.moved hW.alike hK, hDc⟩⟩ rfl rfl hl.1 rfl (lv_room (Nat.le_of_ble_eq_true rfl)) dX10_isStained_2 ⟨Nat.le_of_ble_eq_true rfl, Nat.le_of_ble_eq_true rfl⟩) (fun r1 u H locs hw hP hS => ?_)
  refine lv_istore_n (lv' := [(3, .int r1), (0, .ref w0), (1, .int a1), (2, .int b1)]) hx hb dX10_isStained_5 rfl hl (by decide) rfl (fun ls hl => ?_)
  refine lv_aload_n hx hb dX10_isStained_6 rfl (lv_at hl 1 rfl) ?_
  refine va_get (D := D) (ci := 9) (v := .ref h) (C := RX10) (T := TX10) (N := 12) hx hb hts iG_X10 hown hK hP 0 rfl rfl 3 (by decide) (hts _ w0_20) (fun _ h9 => h9) rfl dX10_isStained_7 ?_
  refine lv_iload_n hx hb dX10_isStained_10 rfl (lv_at hl 0 rfl) ?_
  refine lv_iconst (v := 0) hx hb dX10_isStained_11 (by decide) ?_
  refine kpurei (wc := [(h, oX0 m1 m2 m3 mc sc tx nr ra ru dy wa se lw), (m1, .inl (cI, 50, .inl f1)), (m2, .inl (cI, 72, .inl f2)), (m3, .inl (cJ, 30, .inr (.inl f3)))]) hP hD hS hA [2, 3, 4, 5] rfl (by decide) (fun hPc hDc hFc => va_runVN (C := RX0) (As := [.int r1, .int 0]) (rest := []) ⟨hx, hb, hml, hown, hts⟩ (z_Camp_ofShirt l D cI cJ cB cC h m1 m2 m3 mc sc tx nr ra ru dy wa se lw f1 f2 f3 r1 0 H.size) ⟨va_cnB 2 hts gX10_isStained_X0_ofShirt_n165 rfl rfl rfl (nM_63 hN) (hts _ w0_19) hdX0_ofShirt ⟨Nat.le_of_ble_eq_true rfl, Nat.le_of_ble_eq_true rfl⟩, hts (.instanceMethod yX0_ofShirt) (by decide +kernel), hts (.selects RX0 yX0_ofShirt yX0_ofShirt) (by decide +kernel)⟩ ⟨kBlind, va_recv hK hPc (ci := 0) (q0 := 0) rfl rfl, fun U hU hW => ⟨rfl, by rw [hU], hN.warm hW, hE.pass hS hFc hW hU, by rw [hU]; exact hPc, va_K.moved hW.alike hK, hDc⟩⟩ rfl rfl hl.1 rfl (lv_room (Nat.le_of_ble_eq_true rfl)) dX10_isStained_12 ⟨Nat.le_of_ble_eq_true rfl, Nat.le_of_ble_eq_true rfl⟩) (fun r2 u H locs hw hP hS => ?_)
  refine lv_if_eq (tgt := 20) hx hb dX10_isStained_15 (by decide) (fun c3 => ?_) (fun c3 => ?_)
  · skip
    have k4 : Rg r2 0 0 := rg_q1 (eqI c3) (rg_any r2) (rg_lit (n := 0) (by decide)) (by decide)
    refine lv_iload_n hx hb dX10_isStained_20 rfl (lv_at hl 2 rfl) ?_
    refine k_join (hd := 67) (cells2 := 0) (slots2 := 0) (fun (u : Int32 × (Nat → Int32)) => match u with | (y37, g38) => []) (fun (u : Int32 × (Nat → Int32)) (H : Heap) (locs : List Loc) (ls : Array Slot) => match u with | (y37, g38) => va_P D vwCl [(w0, oX10 tp ts wb h ph pd ps cr lr hd pk gs), (tp, .inl (cI, 400, .inl ft)), (h, oX0 m1 m2 m3 mc sc tx nr ra ru dy wa y37 lw), (m1, .inl (cI, 50, .inl f1)), (m2, .inl (cI, 72, .inl g38)), (m3, .inl (cJ, 30, .inr (.inl f3)))] H ∧ va_D A [(w0, oX10 tp ts wb h ph pd ps cr lr hd pk gs), (tp, .inl (cI, 400, .inl ft)), (h, oX0 m1 m2 m3 mc sc tx nr ra ru dy wa y37 lw), (m1, .inl (cI, 50, .inl f1)), (m2, .inl (cI, 72, .inl g38)), (m3, .inl (cJ, 30, .inr (.inl f3)))] ∧ va_S A s.heap H locs ∧ lv_has ls 4 [(3, .int r1), (0, .ref w0), (1, .int a1), (2, .int b1)]) (fun u H locs ls hI => ?_) (fun hJ67 => ?_)
    · skip
      clear hP hD hS hl
      obtain ⟨y37, g38⟩ := u
      obtain ⟨hP, hD, hS, hl⟩ := hI
      have hP : va_P D vwCl [(w0, oX10 tp ts wb h ph pd ps cr lr hd pk gs), (tp, .inl (cI, 400, .inl ft)), (h, oX0 m1 m2 m3 mc sc tx nr ra ru dy wa y37 lw), (m1, .inl (cI, 50, .inl f1)), (m2, .inl (cI, 72, .inl g38)), (m3, .inl (cJ, 30, .inr (.inl f3)))] H := hP
      have hD : va_D A [(w0, oX10 tp ts wb h ph pd ps cr lr hd pk gs), (tp, .inl (cI, 400, .inl ft)), (h, oX0 m1 m2 m3 mc sc tx nr ra ru dy wa y37 lw), (m1, .inl (cI, 50, .inl f1)), (m2, .inl (cI, 72, .inl g38)), (m3, .inl (cJ, 30, .inr (.inl f3)))] := hD
      have hl : lv_has ls 4 [(3, .int r1), (0, .ref w0), (1, .int a1), (2, .int b1)] := hl
      refine lv_iconst (v := 1) hx hb dX10_isStained_67 (by decide) ?_
      refine lv_goto (tgt := 72) hx hb dX10_isStained_68 (by decide) ?_
      have hP9 := hP.sub (ws' := [(w0, oX10 tp ts wb h ph pd ps cr lr hd pk gs), (tp, .inl (cI, 400, .inl ft)), (h, oX0 m1 m2 m3 mc sc tx nr ra ru dy wa y37 lw), (m1, .inl (cI, 50, .inl f1)), (m2, .inl (cI, 72, .inl g38)), (m3, .inl (cJ, 30, .inr (.inl f3)))]) [0, 1, 2, 3, 4, 5] rfl
      have hD9 := hD.sub (ws' := [(w0, oX10 tp ts wb h ph pd ps cr lr hd pk gs), (tp, .inl (cI, 400, .inl ft)), (h, oX0 m1 m2 m3 mc sc tx nr ra ru dy wa y37 lw), (m1, .inl (cI, 50, .inl f1)), (m2, .inl (cI, 72, .inl g38)), (m3, .inl (cJ, 30, .inr (.inl f3)))]) [0, 1, 2, 3, 4, 5] (by decide) rfl
      exact W.zret (v := 1) hx hb hr (by decide) (fun t ht hW => ⟨⟨1, (y37, g38), rfl, (Or.inr rfl), by rw [ht]; exact hP9, va_K.moved hW.alike hK, hD9⟩, hS.F ht⟩) hS.2.2 dX10_isStained_72
    refine k_join (hd := 42) (cells2 := 0) (slots2 := 0) (fun (u : Int32 × (Nat → Int32)) => match u with | (y39, g40) => []) (fun (u : Int32 × (Nat → Int32)) (H : Heap) (locs : List Loc) (ls : Array Slot) => match u with | (y39, g40) => va_P D vwCl [(w0, oX10 tp ts wb h ph pd ps cr lr hd pk gs), (tp, .inl (cI, 400, .inl ft)), (h, oX0 m1 m2 m3 mc sc tx nr ra ru dy wa y39 lw), (m1, .inl (cI, 50, .inl f1)), (m2, .inl (cI, 72, .inl g40)), (m3, .inl (cJ, 30, .inr (.inl f3)))] H ∧ va_D A [(w0, oX10 tp ts wb h ph pd ps cr lr hd pk gs), (tp, .inl (cI, 400, .inl ft)), (h, oX0 m1 m2 m3 mc sc tx nr ra ru dy wa y39 lw), (m1, .inl (cI, 50, .inl f1)), (m2, .inl (cI, 72, .inl g40)), (m3, .inl (cJ, 30, .inr (.inl f3)))] ∧ va_S A s.heap H locs ∧ lv_has ls 4 [(3, .int r1), (0, .ref w0), (1, .int a1), (2, .int b1)]) (fun u H locs ls hI => ?_) (fun hJ42 => ?_)
    · skip
      clear hP hD hS hl
      obtain ⟨y39, g40⟩ := u
      obtain ⟨hP, hD, hS, hl⟩ := hI
      have hP : va_P D vwCl [(w0, oX10 tp ts wb h ph pd ps cr lr hd pk gs), (tp, .inl (cI, 400, .inl ft)), (h, oX0 m1 m2 m3 mc sc tx nr ra ru dy wa y39 lw), (m1, .inl (cI, 50, .inl f1)), (m2, .inl (cI, 72, .inl g40)), (m3, .inl (cJ, 30, .inr (.inl f3)))] H := hP
      have hD : va_D A [(w0, oX10 tp ts wb h ph pd ps cr lr hd pk gs), (tp, .inl (cI, 400, .inl ft)), (h, oX0 m1 m2 m3 mc sc tx nr ra ru dy wa y39 lw), (m1, .inl (cI, 50, .inl f1)), (m2, .inl (cI, 72, .inl g40)), (m3, .inl (cJ, 30, .inr (.inl f3)))] := hD
      have hl : lv_has ls 4 [(3, .int r1), (0, .ref w0), (1, .int a1), (2, .int b1)] := hl
      refine lv_iload_n hx hb dX10_isStained_42 rfl (lv_at hl 2 rfl) ?_
      refine lv_iconst (v := 1) hx hb dX10_isStained_43 (by decide) ?_
      refine lv_iadd hx hb dX10_isStained_44 ?_
      refine lv_topi (fun x41 ex41 => ?_)
      have k42 : Rg x41 1 401 := rg_add ex41 H_a1 (rg_lit (n := 1) (by decide)) (by decide)
      refine lv_iload_n hx hb dX10_isStained_45 rfl (lv_at hl 3 rfl) ?_
      refine k_join (hd := 71) (cells2 := 0) (slots2 := 0) (fun (u : Int32 × (Nat → Int32)) => match u with | (y57, g58) => []) (fun (u : Int32 × (Nat → Int32)) (H : Heap) (locs : List Loc) (ls : Array Slot) => match u with | (y57, g58) => va_P D vwCl [(w0, oX10 tp ts wb h ph pd ps cr lr hd pk gs), (tp, .inl (cI, 400, .inl ft)), (h, oX0 m1 m2 m3 mc sc tx nr ra ru dy wa y57 lw), (m1, .inl (cI, 50, .inl f1)), (m2, .inl (cI, 72, .inl g58)), (m3, .inl (cJ, 30, .inr (.inl f3)))] H ∧ va_D A [(w0, oX10 tp ts wb h ph pd ps cr lr hd pk gs), (tp, .inl (cI, 400, .inl ft)), (h, oX0 m1 m2 m3 mc sc tx nr ra ru dy wa y57 lw), (m1, .inl (cI, 50, .inl f1)), (m2, .inl (cI, 72, .inl g58)), (m3, .inl (cJ, 30, .inr (.inl f3)))] ∧ va_S A s.heap H locs ∧ lv_has ls 4 [(3, .int r1), (0, .ref w0), (1, .int a1), (2, .int b1)]) (fun u H locs ls hI => ?_) (fun hJ71 => ?_)
      · skip
        clear hP hD hS hl
        obtain ⟨y57, g58⟩ := u
        obtain ⟨hP, hD, hS, hl⟩ := hI
        have hP : va_P D vwCl [(w0, oX10 tp ts wb h ph pd ps cr lr hd pk gs), (tp, .inl (cI, 400, .inl ft)), (h, oX0 m1 m2 m3 mc sc tx nr ra ru dy wa y57 lw), (m1, .inl (cI, 50, .inl f1)), (m2, .inl (cI, 72, .inl g58)), (m3, .inl (cJ, 30, .inr (.inl f3)))] H := hP
        have hD : va_D A [(w0, oX10 tp ts wb h ph pd ps cr lr hd pk gs), (tp, .inl (cI, 400, .inl ft)), (h, oX0 m1 m2 m3 mc sc tx nr ra ru dy wa y57 lw), (m1, .inl (cI, 50, .inl f1)), (m2, .inl (cI, 72, .inl g58)), (m3, .inl (cJ, 30, .inr (.inl f3)))] := hD
        have hl : lv_has ls 4 [(3, .int r1), (0, .ref w0), (1, .int a1), (2, .int b1)] := hl
        refine lv_iconst (v := 0) hx hb dX10_isStained_71 (by decide) ?_
        have hP9 := hP.sub (ws' := [(w0, oX10 tp ts wb h ph pd ps cr lr hd pk gs), (tp, .inl (cI, 400, .inl ft)), (h, oX0 m1 m2 m3 mc sc tx nr ra ru dy wa y57 lw), (m1, .inl (cI, 50, .inl f1)), (m2, .inl (cI, 72, .inl g58)), (m3, .inl (cJ, 30, .inr (.inl f3)))]) [0, 1, 2, 3, 4, 5] rfl
        have hD9 := hD.sub (ws' := [(w0, oX10 tp ts wb h ph pd ps cr lr hd pk gs), (tp, .inl (cI, 400, .inl ft)), (h, oX0 m1 m2 m3 mc sc tx nr ra ru dy wa y57 lw), (m1, .inl (cI, 50, .inl f1)), (m2, .inl (cI, 72, .inl g58)), (m3, .inl (cJ, 30, .inr (.inl f3)))]) [0, 1, 2, 3, 4, 5] (by decide) rfl
        exact W.zret (v := 0) hx hb hr (by decide) (fun t ht hW => ⟨⟨0, (y57, g58), rfl, (Or.inl rfl), by rw [ht]; exact hP9, va_K.moved hW.alike hK, hD9⟩, hS.F ht⟩) hS.2.2 dX10_isStained_72
      refine lv_icmp_ge (tgt := 71) hx hb dX10_isStained_46 (by decide) (fun c59 => ?_) (fun c59 => ?_)
      · skip
        have k60 : Rg b1 (-2147483648) 401 := rg_e1 (leI c59) (rg_any b1) k42 (by decide)
        exact hJ71 (y39, g40) _ _ _ ⟨hP.sub (ws' := [(w0, oX10 tp ts wb h ph pd ps cr lr hd pk gs), (tp, .inl (cI, 400, .inl ft)), (h, oX0 m1 m2 m3 mc sc tx nr ra ru dy wa y39 lw), (m1, .inl (cI, 50, .inl f1)), (m2, .inl (cI, 72, .inl g40)), (m3, .inl (cJ, 30, .inr (.inl f3)))]) [0, 1, 2, 3, 4, 5] rfl, hD.sub (ws' := [(w0, oX10 tp ts wb h ph pd ps cr lr hd pk gs), (tp, .inl (cI, 400, .inl ft)), (h, oX0 m1 m2 m3 mc sc tx nr ra ru dy wa y39 lw), (m1, .inl (cI, 50, .inl f1)), (m2, .inl (cI, 72, .inl g40)), (m3, .inl (cJ, 30, .inr (.inl f3)))]) [0, 1, 2, 3, 4, 5] (by decide) rfl, hS, lv_sub (l' := [(3, .int r1), (0, .ref w0), (1, .int a1), (2, .int b1)]) hl [0, 1, 2, 3] rfl⟩
      · skip
        have k61 : Rg b1 2 2147483647 := rg_l2 (nleI c59) k42 (rg_any b1) (by decide)
        refine lv_aload_n hx hb dX10_isStained_49 rfl (lv_at hl 1 rfl) ?_
        refine va_get (D := D) (ci := 9) (v := .ref h) (C := RX10) (T := TX10) (N := 12) hx hb hts iG_X10 hown hK hP 0 rfl rfl 3 (by decide) (hts _ w0_20) (fun _ h9 => h9) rfl dX10_isStained_50 ?_
        refine lv_iload_n hx hb dX10_isStained_53 rfl (lv_at hl 0 rfl) ?_
        refine lv_aload_n hx hb dX10_isStained_54 rfl (lv_at hl 1 rfl) ?_
        refine lv_iload_n hx hb dX10_isStained_55 rfl (lv_at hl 2 rfl) ?_
        refine lv_iconst (v := 1) hx hb dX10_isStained_56 (by decide) ?_
        refine lv_iadd hx hb dX10_isStained_57 ?_
        refine lv_topi (fun x62 ex62 => ?_)
        have k63 : Rg x62 1 401 := rg_add ex62 H_a1 (rg_lit (n := 1) (by decide)) (by decide)
        refine kpurei (wc := [(w0, oX10 tp ts wb h ph pd ps cr lr hd pk gs), (tp, .inl (cI, 400, .inl ft))]) hP hD hS hA [0, 1] rfl (by decide) (fun hPc hDc hFc => va_runV (As := [.int x62]) (rest := [.int r1, .ref h]) ⟨hx, hb, hml, hown, hts⟩ (z_SW_shirtAt l D cI cJ cB cC w0 tp ts wb ph pd ps cr lr hd pk gs ft h x62 H.size) (cwV 1 hts gX10_isStained_X10_shirtAt rfl rfl rfl ⟨rfl, hdX10_shirtAt⟩ ⟨Nat.le_of_ble_eq_true rfl, Nat.le_of_ble_eq_true rfl⟩) ⟨kBlind, va_recv hK hPc (ci := 9) (q0 := 0) rfl rfl, fun U hU hW => ⟨rfl, by rw [hU], hN.warm hW, hE.pass hS hFc hW hU, by rw [hU]; exact hPc, va_K.moved hW.alike hK, hDc⟩⟩ rfl rfl hl.1 rfl (lv_room (Nat.le_of_ble_eq_true rfl)) dX10_isStained_58 ⟨Nat.le_of_ble_eq_true rfl, Nat.le_of_ble_eq_true rfl⟩) (fun r64 u H locs hw hP hS => ?_)
        refine kcalli (wc := [(h, oX0 m1 m2 m3 mc sc tx nr ra ru dy wa y39 lw), (m1, .inl (cI, 50, .inl f1)), (m2, .inl (cI, 72, .inl g40)), (m3, .inl (cJ, 30, .inr (.inl f3)))]) (wr := [(w0, oX10 tp ts wb h ph pd ps cr lr hd pk gs), (tp, .inl (cI, 400, .inl ft))]) hP hD hS hA [2, 3, 4, 5] [0, 1] rfl rfl (by decide) (by decide) (by decide) (fun hPc hDc hFc => va_runVN (C := RX0) (As := [.int r1, .int r64]) (rest := []) ⟨hx, hb, hml, hown, hts⟩ (z_Camp_takesColourOf l D cI cJ cB cC h m1 m2 m3 mc sc tx nr ra ru dy wa y39 lw f1 g40 f3 r1 r64 H.size) ⟨va_cnB 2 hts gX10_isStained_X0_takesColourOf_n359 rfl rfl rfl (nM_71 hN) (hts _ w0_19) hdX0_takesColourOf ⟨Nat.le_of_ble_eq_true rfl, Nat.le_of_ble_eq_true rfl⟩, hts (.instanceMethod yX0_takesColourOf) (by decide +kernel), hts (.selects RX0 yX0_takesColourOf yX0_takesColourOf) (by decide +kernel)⟩ ⟨kBlind, va_recv hK hPc (ci := 0) (q0 := 0) rfl rfl, fun U hU hW => ⟨rfl, by rw [hU], hN.warm hW, hE.pass hS hFc hW hU, by rw [hU]; exact hPc, va_K.moved hW.alike hK, hDc⟩⟩ rfl rfl hl.1 rfl (lv_room (Nat.le_of_ble_eq_true rfl)) dX10_isStained_61 ⟨Nat.le_of_ble_eq_true rfl, Nat.le_of_ble_eq_true rfl⟩) (fun r65 u H locs hw hP hD hS => ?_)
        obtain ⟨x66, g67⟩ := u
        have hP : va_P D vwCl [(w0, oX10 tp ts wb h ph pd ps cr lr hd pk gs), (tp, .inl (cI, 400, .inl ft)), (h, oX0 m1 m2 m3 mc sc tx nr ra ru dy wa x66 lw), (m1, .inl (cI, 50, .inl f1)), (m2, .inl (cI, 72, .inl g67)), (m3, .inl (cJ, 30, .inr (.inl f3)))] H := hP
        have hD : va_D A [(w0, oX10 tp ts wb h ph pd ps cr lr hd pk gs), (tp, .inl (cI, 400, .inl ft)), (h, oX0 m1 m2 m3 mc sc tx nr ra ru dy wa x66 lw), (m1, .inl (cI, 50, .inl f1)), (m2, .inl (cI, 72, .inl g67)), (m3, .inl (cJ, 30, .inr (.inl f3)))] := hD
        rcases hw with rfl | ⟨rfl, kc68_0⟩
        · skip
          refine lv_if_eq (tgt := 71) hx hb dX10_isStained_64 (by decide) (fun _ => ?_) (fun c69 => absurd (by decide) c69)
          exact hJ71 (x66, g67) _ _ _ ⟨hP.sub (ws' := [(w0, oX10 tp ts wb h ph pd ps cr lr hd pk gs), (tp, .inl (cI, 400, .inl ft)), (h, oX0 m1 m2 m3 mc sc tx nr ra ru dy wa x66 lw), (m1, .inl (cI, 50, .inl f1)), (m2, .inl (cI, 72, .inl g67)), (m3, .inl (cJ, 30, .inr (.inl f3)))]) [0, 1, 2, 3, 4, 5] rfl, hD.sub (ws' := [(w0, oX10 tp ts wb h ph pd ps cr lr hd pk gs), (tp, .inl (cI, 400, .inl ft)), (h, oX0 m1 m2 m3 mc sc tx nr ra ru dy wa x66 lw), (m1, .inl (cI, 50, .inl f1)), (m2, .inl (cI, 72, .inl g67)), (m3, .inl (cJ, 30, .inr (.inl f3)))]) [0, 1, 2, 3, 4, 5] (by decide) rfl, hS, lv_sub (l' := [(3, .int r1), (0, .ref w0), (1, .int a1), (2, .int b1)]) hl [0, 1, 2, 3] rfl⟩
        · skip
          refine lv_if_eq (tgt := 71) hx hb dX10_isStained_64 (by decide) (fun c70 => absurd c70 (by decide)) (fun _ => ?_)
          exact hJ67 (x66, g67) _ _ _ ⟨hP.sub (ws' := [(w0, oX10 tp ts wb h ph pd ps cr lr hd pk gs), (tp, .inl (cI, 400, .inl ft)), (h, oX0 m1 m2 m3 mc sc tx nr ra ru dy wa x66 lw), (m1, .inl (cI, 50, .inl f1)), (m2, .inl (cI, 72, .inl g67)), (m3, .inl (cJ, 30, .inr (.inl f3)))]) [0, 1, 2, 3, 4, 5] rfl, hD.sub (ws' := [(w0, oX10 tp ts wb h ph pd ps cr lr hd pk gs), (tp, .inl (cI, 400, .inl ft)), (h, oX0 m1 m2 m3 mc sc tx nr ra ru dy wa x66 lw), (m1, .inl (cI, 50, .inl f1)), (m2, .inl (cI, 72, .inl g67)), (m3, .inl (cJ, 30, .inr (.inl f3)))]) [0, 1, 2, 3, 4, 5] (by decide) rfl, hS, lv_sub (l' := [(3, .int r1), (0, .ref w0), (1, .int a1), (2, .int b1)]) hl [0, 1, 2, 3] rfl⟩
    refine lv_if_le (tgt := 42) hx hb dX10_isStained_21 (by decide) (fun c71 => ?_) (fun c71 => ?_)
    · skip
      have k72 : Rg a1 0 0 := rg_e1 (leI c71) H_a1 (rg_lit (n := 0) (by decide)) (by decide)
      exact hJ42 (se, f2) _ _ _ ⟨hP.sub (ws' := [(w0, oX10 tp ts wb h ph pd ps cr lr hd pk gs), (tp, .inl (cI, 400, .inl ft)), (h, oX0 m1 m2 m3 mc sc tx nr ra ru dy wa se lw), (m1, .inl (cI, 50, .inl f1)), (m2, .inl (cI, 72, .inl f2)), (m3, .inl (cJ, 30, .inr (.inl f3)))]) [0, 1, 2, 3, 4, 5] rfl, hD.sub (ws' := [(w0, oX10 tp ts wb h ph pd ps cr lr hd pk gs), (tp, .inl (cI, 400, .inl ft)), (h, oX0 m1 m2 m3 mc sc tx nr ra ru dy wa se lw), (m1, .inl (cI, 50, .inl f1)), (m2, .inl (cI, 72, .inl f2)), (m3, .inl (cJ, 30, .inr (.inl f3)))]) [0, 1, 2, 3, 4, 5] (by decide) rfl, hS, lv_sub (l' := [(3, .int r1), (0, .ref w0), (1, .int a1), (2, .int b1)]) hl [0, 1, 2, 3] rfl⟩
    · skip
      have k73 : Rg a1 1 400 := rg_l2 (nleI c71) (rg_lit (n := 0) (by decide)) H_a1 (by decide)
      refine lv_aload_n hx hb dX10_isStained_24 rfl (lv_at hl 1 rfl) ?_
      refine va_get (D := D) (ci := 9) (v := .ref h) (C := RX10) (T := TX10) (N := 12) hx hb hts iG_X10 hown hK hP 0 rfl rfl 3 (by decide) (hts _ w0_20) (fun _ h9 => h9) rfl dX10_isStained_25 ?_
      refine lv_iload_n hx hb dX10_isStained_28 rfl (lv_at hl 0 rfl) ?_
      refine lv_aload_n hx hb dX10_isStained_29 rfl (lv_at hl 1 rfl) ?_
      refine lv_iload_n hx hb dX10_isStained_30 rfl (lv_at hl 2 rfl) ?_
      refine lv_iconst (v := 1) hx hb dX10_isStained_31 (by decide) ?_
      refine lv_isub hx hb dX10_isStained_32 ?_
      refine lv_topi (fun x74 ex74 => ?_)
      have k75 : Rg x74 0 399 := rg_sub ex74 k73 (rg_lit (n := 1) (by decide)) (by decide)
      clear ex74
      refine kpurei (wc := [(w0, oX10 tp ts wb h ph pd ps cr lr hd pk gs), (tp, .inl (cI, 400, .inl ft))]) hP hD hS hA [0, 1] rfl (by decide) (fun hPc hDc hFc => va_runV (As := [.int x74]) (rest := [.int r1, .ref h]) ⟨hx, hb, hml, hown, hts⟩ (z_SW_shirtAt l D cI cJ cB cC w0 tp ts wb ph pd ps cr lr hd pk gs ft h x74 H.size) (cwV 1 hts gX10_isStained_X10_shirtAt rfl rfl rfl ⟨rfl, hdX10_shirtAt⟩ ⟨Nat.le_of_ble_eq_true rfl, Nat.le_of_ble_eq_true rfl⟩) ⟨kBlind, va_recv hK hPc (ci := 9) (q0 := 0) rfl rfl, fun U hU hW => ⟨rfl, by rw [hU], hN.warm hW, hE.pass hS hFc hW hU, by rw [hU]; exact hPc, va_K.moved hW.alike hK, hDc⟩⟩ rfl rfl hl.1 rfl (lv_room (Nat.le_of_ble_eq_true rfl)) dX10_isStained_33 ⟨Nat.le_of_ble_eq_true rfl, Nat.le_of_ble_eq_true rfl⟩) (fun r76 u H locs hw hP hS => ?_)
      refine kcalli (wc := [(h, oX0 m1 m2 m3 mc sc tx nr ra ru dy wa se lw), (m1, .inl (cI, 50, .inl f1)), (m2, .inl (cI, 72, .inl f2)), (m3, .inl (cJ, 30, .inr (.inl f3)))]) (wr := [(w0, oX10 tp ts wb h ph pd ps cr lr hd pk gs), (tp, .inl (cI, 400, .inl ft))]) hP hD hS hA [2, 3, 4, 5] [0, 1] rfl rfl (by decide) (by decide) (by decide) (fun hPc hDc hFc => va_runVN (C := RX0) (As := [.int r1, .int r76]) (rest := []) ⟨hx, hb, hml, hown, hts⟩ (z_Camp_takesColourOf l D cI cJ cB cC h m1 m2 m3 mc sc tx nr ra ru dy wa se lw f1 f2 f3 r1 r76 H.size) ⟨va_cnB 2 hts gX10_isStained_X0_takesColourOf_n359 rfl rfl rfl (nM_71 hN) (hts _ w0_19) hdX0_takesColourOf ⟨Nat.le_of_ble_eq_true rfl, Nat.le_of_ble_eq_true rfl⟩, hts (.instanceMethod yX0_takesColourOf) (by decide +kernel), hts (.selects RX0 yX0_takesColourOf yX0_takesColourOf) (by decide +kernel)⟩ ⟨kBlind, va_recv hK hPc (ci := 0) (q0 := 0) rfl rfl, fun U hU hW => ⟨rfl, by rw [hU], hN.warm hW, hE.pass hS hFc hW hU, by rw [hU]; exact hPc, va_K.moved hW.alike hK, hDc⟩⟩ rfl rfl hl.1 rfl (lv_room (Nat.le_of_ble_eq_true rfl)) dX10_isStained_36 ⟨Nat.le_of_ble_eq_true rfl, Nat.le_of_ble_eq_true rfl⟩) (fun r77 u H locs hw hP hD hS => ?_)
      obtain ⟨x78, g79⟩ := u
      have hP : va_P D vwCl [(w0, oX10 tp ts wb h ph pd ps cr lr hd pk gs), (tp, .inl (cI, 400, .inl ft)), (h, oX0 m1 m2 m3 mc sc tx nr ra ru dy wa x78 lw), (m1, .inl (cI, 50, .inl f1)), (m2, .inl (cI, 72, .inl g79)), (m3, .inl (cJ, 30, .inr (.inl f3)))] H := hP
      have hD : va_D A [(w0, oX10 tp ts wb h ph pd ps cr lr hd pk gs), (tp, .inl (cI, 400, .inl ft)), (h, oX0 m1 m2 m3 mc sc tx nr ra ru dy wa x78 lw), (m1, .inl (cI, 50, .inl f1)), (m2, .inl (cI, 72, .inl g79)), (m3, .inl (cJ, 30, .inr (.inl f3)))] := hD
      rcases hw with rfl | ⟨rfl, kc80_0⟩
      · skip
        refine lv_if_ne (tgt := 67) hx hb dX10_isStained_39 (by decide) (fun c81 => absurd (by decide) c81) (fun _ => ?_)
        exact hJ42 (x78, g79) _ _ _ ⟨hP.sub (ws' := [(w0, oX10 tp ts wb h ph pd ps cr lr hd pk gs), (tp, .inl (cI, 400, .inl ft)), (h, oX0 m1 m2 m3 mc sc tx nr ra ru dy wa x78 lw), (m1, .inl (cI, 50, .inl f1)), (m2, .inl (cI, 72, .inl g79)), (m3, .inl (cJ, 30, .inr (.inl f3)))]) [0, 1, 2, 3, 4, 5] rfl, hD.sub (ws' := [(w0, oX10 tp ts wb h ph pd ps cr lr hd pk gs), (tp, .inl (cI, 400, .inl ft)), (h, oX0 m1 m2 m3 mc sc tx nr ra ru dy wa x78 lw), (m1, .inl (cI, 50, .inl f1)), (m2, .inl (cI, 72, .inl g79)), (m3, .inl (cJ, 30, .inr (.inl f3)))]) [0, 1, 2, 3, 4, 5] (by decide) rfl, hS, lv_sub (l' := [(3, .int r1), (0, .ref w0), (1, .int a1), (2, .int b1)]) hl [0, 1, 2, 3] rfl⟩
      · skip
        refine lv_if_ne (tgt := 67) hx hb dX10_isStained_39 (by decide) (fun _ => ?_) (fun c82 => absurd c82 (by decide))
        exact hJ67 (x78, g79) _ _ _ ⟨hP.sub (ws' := [(w0, oX10 tp ts wb h ph pd ps cr lr hd pk gs), (tp, .inl (cI, 400, .inl ft)), (h, oX0 m1 m2 m3 mc sc tx nr ra ru dy wa x78 lw), (m1, .inl (cI, 50, .inl f1)), (m2, .inl (cI, 72, .inl g79)), (m3, .inl (cJ, 30, .inr (.inl f3)))]) [0, 1, 2, 3, 4, 5] rfl, hD.sub (ws' := [(w0, oX10 tp ts wb h ph pd ps cr lr hd pk gs), (tp, .inl (cI, 400, .inl ft)), (h, oX0 m1 m2 m3 mc sc tx nr ra ru dy wa x78 lw), (m1, .inl (cI, 50, .inl f1)), (m2, .inl (cI, 72, .inl g79)), (m3, .inl (cJ, 30, .inr (.inl f3)))]) [0, 1, 2, 3, 4, 5] (by decide) rfl, hS, lv_sub (l' := [(3, .int r1), (0, .ref w0), (1, .int a1), (2, .int b1)]) hl [0, 1, 2, 3] rfl⟩
  · skip
    refine lv_iconst (v := 0) hx hb dX10_isStained_18 (by decide) ?_
    have hP9 := hP.sub (ws' := [(w0, oX10 tp ts wb h ph pd ps cr lr hd pk gs), (tp, .inl (cI, 400, .inl ft)), (h, oX0 m1 m2 m3 mc sc tx nr ra ru dy wa se lw), (m1, .inl (cI, 50, .inl f1)), (m2, .inl (cI, 72, .inl f2)), (m3, .inl (cJ, 30, .inr (.inl f3)))]) [0, 1, 2, 3, 4, 5] rfl
    have hD9 := hD.sub (ws' := [(w0, oX10 tp ts wb h ph pd ps cr lr hd pk gs), (tp, .inl (cI, 400, .inl ft)), (h, oX0 m1 m2 m3 mc sc tx nr ra ru dy wa se lw), (m1, .inl (cI, 50, .inl f1)), (m2, .inl (cI, 72, .inl f2)), (m3, .inl (cJ, 30, .inr (.inl f3)))]) [0, 1, 2, 3, 4, 5] (by decide) rfl
    exact W.zret (v := 0) hx hb hr (by decide) (fun t ht hW => ⟨⟨0, (se, f2), rfl, (Or.inl rfl), by rw [ht]; exact hP9, va_K.moved hW.alike hK, hD9⟩, hS.F ht⟩) hS.2.2 dX10_isStained_19

def kwX10_passed : List Cond := .code yX10_passed cX10_passed 4 (some .int) :: kG
theorem hdX10_passed : yX10_passed.cls ≠ "java/lang/invoke/MethodHandle" ∧ yX10_passed.cls ≠ "java/lang/invoke/VarHandle" ∧ (parseMethodDescriptor yX10_passed.desc).map (fun d => d.parameters.length) = some 1 := by decide +kernel
theorem gX10_passed_X0_neighboursOf_n149 : GoodIn kG (kwX0_neighboursOf) := gK w26_16 gGG
theorem dX10_passed_0 : decode cX10_passed 0 = .ok (.iload_n 1, 1) := by decide +kernel
theorem dX10_passed_1 : decode cX10_passed 1 = .ok (.istore_n 2, 1) := by decide +kernel
theorem dX10_passed_2 : decode cX10_passed 2 = .ok (.iconst 0, 1) := by decide +kernel
theorem dX10_passed_3 : decode cX10_passed 3 = .ok (.istore_n 3, 1) := by decide +kernel
theorem dX10_passed_4 : decode cX10_passed 4 = .ok (.iload_n 3, 1) := by decide +kernel
theorem dX10_passed_5 : decode cX10_passed 5 = .ok (.aload_n 0, 1) := by decide +kernel
theorem dX10_passed_6 : decode cX10_passed 6 = .ok (.getfield 23, 3) := by decide +kernel
theorem dX10_passed_9 : decode cX10_passed 9 = .ok (.getfield 256, 3) := by decide +kernel
theorem dX10_passed_12 : decode cX10_passed 12 = .ok (.if_icmp .ge 28, 3) := by decide +kernel
theorem dX10_passed_15 : decode cX10_passed 15 = .ok (.iload_n 1, 1) := by decide +kernel
theorem dX10_passed_16 : decode cX10_passed 16 = .ok (.iload_n 3, 1) := by decide +kernel
theorem dX10_passed_17 : decode cX10_passed 17 = .ok (.ishr, 1) := by decide +kernel
theorem dX10_passed_18 : decode cX10_passed 18 = .ok (.iconst 1, 1) := by decide +kernel
theorem dX10_passed_19 : decode cX10_passed 19 = .ok (.iand, 1) := by decide +kernel
theorem dX10_passed_20 : decode cX10_passed 20 = .ok (.ifCond .eq 14, 3) := by decide +kernel
theorem dX10_passed_23 : decode cX10_passed 23 = .ok (.iload_n 2, 1) := by decide +kernel
theorem dX10_passed_24 : decode cX10_passed 24 = .ok (.aload_n 0, 1) := by decide +kernel
theorem dX10_passed_25 : decode cX10_passed 25 = .ok (.getfield 23, 3) := by decide +kernel
theorem dX10_passed_28 : decode cX10_passed 28 = .ok (.iload_n 3, 1) := by decide +kernel
theorem dX10_passed_29 : decode cX10_passed 29 = .ok (.invokevirtual 149, 3) := by decide +kernel
theorem dX10_passed_32 : decode cX10_passed 32 = .ok (.ior, 1) := by decide +kernel
theorem dX10_passed_33 : decode cX10_passed 33 = .ok (.istore_n 2, 1) := by decide +kernel
theorem dX10_passed_34 : decode cX10_passed 34 = .ok (.iinc 3 1, 3) := by decide +kernel
theorem dX10_passed_37 : decode cX10_passed 37 = .ok (.goto (-33), 3) := by decide +kernel
theorem dX10_passed_40 : decode cX10_passed 40 = .ok (.iload_n 2, 1) := by decide +kernel
theorem dX10_passed_41 : decode cX10_passed 41 = .ok (.ireturn, 1) := by decide +kernel
set_option maxHeartbeats 4000000 in
set_option maxRecDepth 100000 in
/-- ShirtWash.passed -/
theorem z_SW_passed (l : Launch) (D : va_G) (cI cJ cB cC : ClassId) (w0 : Nat) (tp : Nat) (ts : Int32) (wb : Int32) (ph : Nat) (pd : Int32) (ps : Nat) (cr : Nat) (lr : Nat) (hd : Nat) (pk : Nat) (gs : Nat) (h : Nat) (m1 : Nat) (m2 : Nat) (m3 : Nat) (mc : Int32) (sc : Int32) (tx : Int32) (nr : Int32) (ra : Int32) (ru : Int32) (dy : Int32) (wa : Int32) (se : Int32) (lw : Option Nat) (f1 : Nat → Int32) (f2 : Nat → Int32) (f3 : Nat → Int64) (a1 : Int32) (sz : Nat)  : Met l yX10_passed kwX10_passed ({ frames := 3, cells := 0, slots := 0, locals := 68 } : Room) (kPre D (kT cI cJ cB cC) sz [(w0, oX10 tp ts wb h ph pd ps cr lr hd pk gs), (h, oX0 m1 m2 m3 mc sc tx nr ra ru dy wa se lw), (m1, .inl (cI, 50, .inl f1)), (m2, .inl (cI, 72, .inl f2)), (m3, .inl (cJ, 30, .inr (.inl f3)))] [.ref w0, .int a1]) (va_Qi (fun (r : Int32) (_ : Unit) => True) (fun (_ : Unit) (t : State) => kB D (kT cI cJ cB cC) (va_A [(w0, oX10 tp ts wb h ph pd ps cr lr hd pk gs), (h, oX0 m1 m2 m3 mc sc tx nr ra ru dy wa se lw), (m1, .inl (cI, 50, .inl f1)), (m2, .inl (cI, 72, .inl f2)), (m3, .inl (cJ, 30, .inr (.inl f3)))] sz) [(w0, oX10 tp ts wb h ph pd ps cr lr hd pk gs), (h, oX0 m1 m2 m3 mc sc tx nr ra ru dy wa se lw), (m1, .inl (cI, 50, .inl f1)), (m2, .inl (cI, 72, .inl f2)), (m3, .inl (cJ, 30, .inr (.inl f3)))] t) (va_A [(w0, oX10 tp ts wb h ph pd ps cr lr hd pk gs), (h, oX0 m1 m2 m3 mc sc tx nr ra ru dy wa se lw), (m1, .inl (cI, 50, .inl f1)), (m2, .inl (cI, 72, .inl f2)), (m3, .inl (cJ, 30, .inr (.inl f3)))] sz)) 0 0 (va_A [(w0, oX10 tp ts wb h ph pd ps cr lr hd pk gs), (h, oX0 m1 m2 m3 mc sc tx nr ra ru dy wa se lw), (m1, .inl (cI, 50, .inl f1)), (m2, .inl (cI, 72, .inl f2)), (m3, .inl (cJ, 30, .inr (.inl f3)))] sz) := by
  refine Met.ofW (cc := cX10_passed) (maxL := 4) (ret := (some .int)) (by decide) rfl ?_
  intro p e s m args below meth c s₁ B hml hv
  obtain ⟨rfl, hsz, hN, hE, hP, hK, hD0⟩ := hv
  have hx := B.exec
  have hb := B.bytes
  have hr := B.returns
  have hts := fun (w : Cond) (h : w ∈ kG) => atoms_spec (ws := kwX10_passed) B.pre w (List.mem_cons_of_mem _ h)
  have hown : s.vm.findClass RX10 = some m.cls := findClass_of_methodNamed B.named
  subst hsz
  have hD := hD0.self (sz := s.heap.size)
  generalize hAe : va_A [(w0, oX10 tp ts wb h ph pd ps cr lr hd pk gs), (h, oX0 m1 m2 m3 mc sc tx nr ra ru dy wa se lw), (m1, .inl (cI, 50, .inl f1)), (m2, .inl (cI, 72, .inl f2)), (m3, .inl (cJ, 30, .inr (.inl f3)))] s.heap.size = A at hD hE ⊢
  have hA : ∀ q : Nat, s.heap.size ≤ q → A q := fun q h => by rw [← hAe]; exact Or.inr h
  have hl := lv_entry ([.ref w0, .int a1]) (n := 4) (Nat.le_of_ble_eq_true rfl)
  rw [lg_entry_eq]
  generalize (lg_sl ([.ref w0, .int a1]) ++ List.replicate (4 - (lg_sl ([.ref w0, .int a1])).length) Slot.unset).toArray = ls at hl ⊢
  have hl : lv_has ls 4 [(0, .ref w0), (1, .int a1)] := hl
  obtain ⟨H, hH0⟩ : ∃ H, H = s.heap := ⟨_, rfl⟩
  have hS : va_S A s.heap H [] := by rw [hH0]; exact va_S.rf
  have hP : va_P D vwCl [(w0, oX10 tp ts wb h ph pd ps cr lr hd pk gs), (h, oX0 m1 m2 m3 mc sc tx nr ra ru dy wa se lw), (m1, .inl (cI, 50, .inl f1)), (m2, .inl (cI, 72, .inl f2)), (m3, .inl (cJ, 30, .inr (.inl f3)))] H := by rw [hH0]; exact hP
  refine kHeap hH0 ?_
  clear hH0
  refine lv_iload_n hx hb dX10_passed_0 rfl (lv_at hl 1 rfl) ?_
  refine lv_istore_n (lv' := [(2, .int a1), (0, .ref w0), (1, .int a1)]) hx hb dX10_passed_1 rfl hl (by decide) rfl (fun ls hl => ?_)
  refine lv_iconst (v := 0) hx hb dX10_passed_2 (by decide) ?_
  refine lv_istore_n (lv' := [(3, .int 0), (2, .int a1), (0, .ref w0), (1, .int a1)]) hx hb dX10_passed_3 rfl hl (by decide) rfl (fun ls hl => ?_)
  refine k_loop (hd := 4) (fun (u : Int32 × Int32) => match u with | (y141, y142) => (2147483647 - (y141).toInt).toNat) (fun (u : Int32 × Int32) (H : Heap) (locs : List Loc) (ls : Array Slot) => match u with | (y141, y142) => Rg y141 0 2147483647 ∧ va_P D vwCl [(w0, oX10 tp ts wb h ph pd ps cr lr hd pk gs), (h, oX0 m1 m2 m3 mc sc tx nr ra ru dy wa se lw), (m1, .inl (cI, 50, .inl f1)), (m2, .inl (cI, 72, .inl f2)), (m3, .inl (cJ, 30, .inr (.inl f3)))] H ∧ va_D A [(w0, oX10 tp ts wb h ph pd ps cr lr hd pk gs), (h, oX0 m1 m2 m3 mc sc tx nr ra ru dy wa se lw), (m1, .inl (cI, 50, .inl f1)), (m2, .inl (cI, 72, .inl f2)), (m3, .inl (cJ, 30, .inr (.inl f3)))] ∧ va_S A s.heap H locs ∧ lv_has ls 4 [(3, .int y141), (2, .int y142), (0, .ref w0), (1, .int a1)]) ((0 : Int32), a1) ⟨(rg_w (rg_lit (n := 0) (by decide)) (by decide)), hP.sub (ws' := [(w0, oX10 tp ts wb h ph pd ps cr lr hd pk gs), (h, oX0 m1 m2 m3 mc sc tx nr ra ru dy wa se lw), (m1, .inl (cI, 50, .inl f1)), (m2, .inl (cI, 72, .inl f2)), (m3, .inl (cJ, 30, .inr (.inl f3)))]) [0, 1, 2, 3, 4] rfl, hD.sub (ws' := [(w0, oX10 tp ts wb h ph pd ps cr lr hd pk gs), (h, oX0 m1 m2 m3 mc sc tx nr ra ru dy wa se lw), (m1, .inl (cI, 50, .inl f1)), (m2, .inl (cI, 72, .inl f2)), (m3, .inl (cJ, 30, .inr (.inl f3)))]) [0, 1, 2, 3, 4] (by decide) rfl, hS, lv_sub (l' := [(3, .int 0), (2, .int a1), (0, .ref w0), (1, .int a1)]) hl [0, 1, 2, 3] rfl⟩ (fun u H locs ls hI ih143 => ?_)
  clear hP hD hS hl
  obtain ⟨y141, y142⟩ := u
  obtain ⟨hy141, hP, hD, hS, hl⟩ := hI
  have hP : va_P D vwCl [(w0, oX10 tp ts wb h ph pd ps cr lr hd pk gs), (h, oX0 m1 m2 m3 mc sc tx nr ra ru dy wa se lw), (m1, .inl (cI, 50, .inl f1)), (m2, .inl (cI, 72, .inl f2)), (m3, .inl (cJ, 30, .inr (.inl f3)))] H := hP
  have hD : va_D A [(w0, oX10 tp ts wb h ph pd ps cr lr hd pk gs), (h, oX0 m1 m2 m3 mc sc tx nr ra ru dy wa se lw), (m1, .inl (cI, 50, .inl f1)), (m2, .inl (cI, 72, .inl f2)), (m3, .inl (cJ, 30, .inr (.inl f3)))] := hD
  have hl : lv_has ls 4 [(3, .int y141), (2, .int y142), (0, .ref w0), (1, .int a1)] := hl
  refine lv_iload_n hx hb dX10_passed_4 rfl (lv_at hl 0 rfl) ?_
  refine lv_aload_n hx hb dX10_passed_5 rfl (lv_at hl 2 rfl) ?_
  refine va_get (D := D) (ci := 9) (v := .ref h) (C := RX10) (T := TX10) (N := 12) hx hb hts iG_X10 hown hK hP 0 rfl rfl 3 (by decide) (hts _ w0_20) (fun _ h9 => h9) rfl dX10_passed_6 ?_
  refine va_getN (D := D) (ci := 0) (v := .int mc) (C := RX0) (T := TX0) (N := 13) hx hb hts iG_X0 hown hK hP 1 rfl rfl 3 (by decide) (nF_3 hN) (fun _ h9 => h9) rfl dX10_passed_9 ?_
  refine lv_icmp_ge (tgt := 40) hx hb dX10_passed_12 (by decide) (fun c144 => ?_) (fun c144 => ?_)
  · skip
    refine lv_iload_n hx hb dX10_passed_40 rfl (lv_at hl 1 rfl) ?_
    have hP9 := hP.sub (ws' := [(w0, oX10 tp ts wb h ph pd ps cr lr hd pk gs), (h, oX0 m1 m2 m3 mc sc tx nr ra ru dy wa se lw), (m1, .inl (cI, 50, .inl f1)), (m2, .inl (cI, 72, .inl f2)), (m3, .inl (cJ, 30, .inr (.inl f3)))]) [0, 1, 2, 3, 4] rfl
    have hD9 := hD.sub (ws' := [(w0, oX10 tp ts wb h ph pd ps cr lr hd pk gs), (h, oX0 m1 m2 m3 mc sc tx nr ra ru dy wa se lw), (m1, .inl (cI, 50, .inl f1)), (m2, .inl (cI, 72, .inl f2)), (m3, .inl (cJ, 30, .inr (.inl f3)))]) [0, 1, 2, 3, 4] (by decide) rfl
    exact W.iret (v := y142) hx hb hr (fun t ht hW => ⟨⟨y142, (), rfl, trivial, by rw [ht]; exact hP9, va_K.moved hW.alike hK, hD9⟩, hS.F ht⟩) hS.2.2 dX10_passed_41
  · skip
    have k145 : Rg y141 0 2147483646 := rg_l1 (nleI c144) hy141 (rg_any mc) (by decide)
    have k146 : Rg mc 1 2147483647 := rg_l2 (nleI c144) hy141 (rg_any mc) (by decide)
    refine lv_iload_n hx hb dX10_passed_15 rfl (lv_at hl 3 rfl) ?_
    refine lv_iload_n hx hb dX10_passed_16 rfl (lv_at hl 0 rfl) ?_
    refine lv_ishr hx hb dX10_passed_17 ?_
    refine lv_topi (fun x147 ex147 => ?_)
    clear ex147
    refine lv_iconst (v := 1) hx hb dX10_passed_18 (by decide) ?_
    refine lv_iand hx hb dX10_passed_19 ?_
    refine lv_topi (fun x148 ex148 => ?_)
    have k149 : Rg x148 0 1 := rg_andr ex148 (rg_lit (n := 1) (by decide)) (by decide)
    clear ex148
    refine k_join (hd := 34) (cells2 := 0) (slots2 := 0) (fun (y156 : Int32) => []) (fun (y156 : Int32) (H : Heap) (locs : List Loc) (ls : Array Slot) => va_P D vwCl [(w0, oX10 tp ts wb h ph pd ps cr lr hd pk gs), (h, oX0 m1 m2 m3 mc sc tx nr ra ru dy wa se lw), (m1, .inl (cI, 50, .inl f1)), (m2, .inl (cI, 72, .inl f2)), (m3, .inl (cJ, 30, .inr (.inl f3)))] H ∧ va_D A [(w0, oX10 tp ts wb h ph pd ps cr lr hd pk gs), (h, oX0 m1 m2 m3 mc sc tx nr ra ru dy wa se lw), (m1, .inl (cI, 50, .inl f1)), (m2, .inl (cI, 72, .inl f2)), (m3, .inl (cJ, 30, .inr (.inl f3)))] ∧ va_S A s.heap H locs ∧ lv_has ls 4 [(3, .int y141), (2, .int y156), (0, .ref w0), (1, .int a1)]) (fun u H locs ls hI => ?_) (fun hJ34 => ?_)
    · skip
      clear hP hD hS hl
      obtain ⟨y156, rfl⟩ : ∃ z, z = u := ⟨_, rfl⟩
      obtain ⟨hP, hD, hS, hl⟩ := hI
      have hP : va_P D vwCl [(w0, oX10 tp ts wb h ph pd ps cr lr hd pk gs), (h, oX0 m1 m2 m3 mc sc tx nr ra ru dy wa se lw), (m1, .inl (cI, 50, .inl f1)), (m2, .inl (cI, 72, .inl f2)), (m3, .inl (cJ, 30, .inr (.inl f3)))] H := hP
      have hD : va_D A [(w0, oX10 tp ts wb h ph pd ps cr lr hd pk gs), (h, oX0 m1 m2 m3 mc sc tx nr ra ru dy wa se lw), (m1, .inl (cI, 50, .inl f1)), (m2, .inl (cI, 72, .inl f2)), (m3, .inl (cJ, 30, .inr (.inl f3)))] := hD
      have hl : lv_has ls 4 [(3, .int y141), (2, .int y156), (0, .ref w0), (1, .int a1)] := hl
      obtain ⟨x157, ex157⟩ : ∃ y : Int32, y = y141 + 1 := ⟨_, rfl⟩
      refine lv_iinc (v := x157) (lv' := [(3, .int x157), (2, .int y156), (0, .ref w0), (1, .int a1)]) hx hb dX10_passed_34 hl (k := 0) rfl (by rw [ex157]; rfl) (by decide) rfl (fun ls hl => ?_)
      have k158 : Rg x157 1 2147483647 := rg_add ex157 k145 (rg_lit (n := 1) (by decide)) (by decide)
      refine lv_goto (tgt := 4) hx hb dX10_passed_37 (by decide) ?_
      exact ih143 (x157, y156) _ _ _ (by show (2147483647 - (x157).toInt).toNat < (2147483647 - (y141).toInt).toNat; exact mu_up ex157 k145 k158 (by decide)) ⟨(rg_w k158 (by decide)), hP.sub (ws' := [(w0, oX10 tp ts wb h ph pd ps cr lr hd pk gs), (h, oX0 m1 m2 m3 mc sc tx nr ra ru dy wa se lw), (m1, .inl (cI, 50, .inl f1)), (m2, .inl (cI, 72, .inl f2)), (m3, .inl (cJ, 30, .inr (.inl f3)))]) [0, 1, 2, 3, 4] rfl, hD.sub (ws' := [(w0, oX10 tp ts wb h ph pd ps cr lr hd pk gs), (h, oX0 m1 m2 m3 mc sc tx nr ra ru dy wa se lw), (m1, .inl (cI, 50, .inl f1)), (m2, .inl (cI, 72, .inl f2)), (m3, .inl (cJ, 30, .inr (.inl f3)))]) [0, 1, 2, 3, 4] (by decide) rfl, hS, lv_sub (l' := [(3, .int x157), (2, .int y156), (0, .ref w0), (1, .int a1)]) hl [0, 1, 2, 3] rfl⟩
    refine lv_if_eq (tgt := 34) hx hb dX10_passed_20 (by decide) (fun c159 => ?_) (fun c159 => ?_)
    · skip
      have k160 : Rg x148 0 0 := rg_q1 (eqI c159) k149 (rg_lit (n := 0) (by decide)) (by decide)
      exact hJ34 (y142) _ _ _ ⟨hP.sub (ws' := [(w0, oX10 tp ts wb h ph pd ps cr lr hd pk gs), (h, oX0 m1 m2 m3 mc sc tx nr ra ru dy wa se lw), (m1, .inl (cI, 50, .inl f1)), (m2, .inl (cI, 72, .inl f2)), (m3, .inl (cJ, 30, .inr (.inl f3)))]) [0, 1, 2, 3, 4] rfl, hD.sub (ws' := [(w0, oX10 tp ts wb h ph pd ps cr lr hd pk gs), (h, oX0 m1 m2 m3 mc sc tx nr ra ru dy wa se lw), (m1, .inl (cI, 50, .inl f1)), (m2, .inl (cI, 72, .inl f2)), (m3, .inl (cJ, 30, .inr (.inl f3)))]) [0, 1, 2, 3, 4] (by decide) rfl, hS, lv_sub (l' := [(3, .int y141), (2, .int y142), (0, .ref w0), (1, .int a1)]) hl [0, 1, 2, 3] rfl⟩
    · skip
      have k161 : Rg x148 1 1 := rg_n1 (neI c159) k149 (rg_lit (n := 0) (by decide)) (by decide)
      refine lv_iload_n hx hb dX10_passed_23 rfl (lv_at hl 1 rfl) ?_
      refine lv_aload_n hx hb dX10_passed_24 rfl (lv_at hl 2 rfl) ?_
      refine va_get (D := D) (ci := 9) (v := .ref h) (C := RX10) (T := TX10) (N := 12) hx hb hts iG_X10 hown hK hP 0 rfl rfl 3 (by decide) (hts _ w0_20) (fun _ h9 => h9) rfl dX10_passed_25 ?_
      refine lv_iload_n hx hb dX10_passed_28 rfl (lv_at hl 0 rfl) ?_
      refine kpurei (wc := [(h, oX0 m1 m2 m3 mc sc tx nr ra ru dy wa se lw), (m1, .inl (cI, 50, .inl f1)), (m2, .inl (cI, 72, .inl f2)), (m3, .inl (cJ, 30, .inr (.inl f3)))]) hP hD hS hA [1, 2, 3, 4] rfl (by decide) (fun hPc hDc hFc => va_runVN (C := RX0) (As := [.int y141]) (rest := [.int y142]) ⟨hx, hb, hml, hown, hts⟩ (z_Camp_neighboursOf l D cI cJ cB cC h m1 m2 m3 mc sc tx nr ra ru dy wa se lw f1 f2 f3 y141 H.size) ⟨va_cnB 1 hts gX10_passed_X0_neighboursOf_n149 rfl rfl rfl (nM_59 hN) (hts _ w0_19) hdX0_neighboursOf ⟨Nat.le_of_ble_eq_true rfl, Nat.le_of_ble_eq_true rfl⟩, hts (.instanceMethod yX0_neighboursOf) (by decide +kernel), hts (.selects RX0 yX0_neighboursOf yX0_neighboursOf) (by decide +kernel)⟩ ⟨kBlind, va_recv hK hPc (ci := 0) (q0 := 0) rfl rfl, fun U hU hW => ⟨rfl, by rw [hU], hN.warm hW, hE.pass hS hFc hW hU, by rw [hU]; exact hPc, va_K.moved hW.alike hK, hDc⟩⟩ rfl rfl hl.1 rfl (lv_room (Nat.le_of_ble_eq_true rfl)) dX10_passed_29 ⟨Nat.le_of_ble_eq_true rfl, Nat.le_of_ble_eq_true rfl⟩) (fun r162 u H locs hw hP hS => ?_)
      refine lv_ior hx hb dX10_passed_32 ?_
      refine lv_topi (fun x163 ex163 => ?_)
      clear ex163
      refine lv_istore_n (lv' := [(2, .int x163), (3, .int y141), (0, .ref w0), (1, .int a1)]) hx hb dX10_passed_33 rfl hl (by decide) rfl (fun ls hl => ?_)
      exact hJ34 (x163) _ _ _ ⟨hP.sub (ws' := [(w0, oX10 tp ts wb h ph pd ps cr lr hd pk gs), (h, oX0 m1 m2 m3 mc sc tx nr ra ru dy wa se lw), (m1, .inl (cI, 50, .inl f1)), (m2, .inl (cI, 72, .inl f2)), (m3, .inl (cJ, 30, .inr (.inl f3)))]) [0, 1, 2, 3, 4] rfl, hD.sub (ws' := [(w0, oX10 tp ts wb h ph pd ps cr lr hd pk gs), (h, oX0 m1 m2 m3 mc sc tx nr ra ru dy wa se lw), (m1, .inl (cI, 50, .inl f1)), (m2, .inl (cI, 72, .inl f2)), (m3, .inl (cJ, 30, .inr (.inl f3)))]) [0, 1, 2, 3, 4] (by decide) rfl, hS, lv_sub (l' := [(3, .int y141), (2, .int x163), (0, .ref w0), (1, .int a1)]) hl [1, 0, 2, 3] rfl⟩

def kwX10_carried : List Cond := .code yX10_carried cX10_carried 4 (some .int) :: kG
theorem hdX10_carried : yX10_carried.cls ≠ "java/lang/invoke/MethodHandle" ∧ yX10_carried.cls ≠ "java/lang/invoke/VarHandle" ∧ (parseMethodDescriptor yX10_carried.desc).map (fun d => d.parameters.length) = some 1 := by decide +kernel
theorem gX10_carried_X10_byteAt : GoodIn kG (wsV RX10 353 RX10 yX10_byteAt kwX10_byteAt) := gK w36_15 (gK w36_16 (gK w36_17 (gK w0_2 (gK w36_18 gGG))))
theorem dX10_carried_0 : decode cX10_carried 0 = .ok (.iconst 0, 1) := by decide +kernel
theorem dX10_carried_1 : decode cX10_carried 1 = .ok (.istore_n 2, 1) := by decide +kernel
theorem dX10_carried_2 : decode cX10_carried 2 = .ok (.iconst 0, 1) := by decide +kernel
theorem dX10_carried_3 : decode cX10_carried 3 = .ok (.istore_n 3, 1) := by decide +kernel
theorem dX10_carried_4 : decode cX10_carried 4 = .ok (.iload_n 3, 1) := by decide +kernel
theorem dX10_carried_5 : decode cX10_carried 5 = .ok (.aload_n 0, 1) := by decide +kernel
theorem dX10_carried_6 : decode cX10_carried 6 = .ok (.getfield 23, 3) := by decide +kernel
theorem dX10_carried_9 : decode cX10_carried 9 = .ok (.getfield 256, 3) := by decide +kernel
theorem dX10_carried_12 : decode cX10_carried 12 = .ok (.if_icmp .ge 30, 3) := by decide +kernel
theorem dX10_carried_15 : decode cX10_carried 15 = .ok (.iload_n 1, 1) := by decide +kernel
theorem dX10_carried_16 : decode cX10_carried 16 = .ok (.iload_n 3, 1) := by decide +kernel
theorem dX10_carried_17 : decode cX10_carried 17 = .ok (.ishr, 1) := by decide +kernel
theorem dX10_carried_18 : decode cX10_carried 18 = .ok (.iconst 1, 1) := by decide +kernel
theorem dX10_carried_19 : decode cX10_carried 19 = .ok (.iand, 1) := by decide +kernel
theorem dX10_carried_20 : decode cX10_carried 20 = .ok (.ifCond .eq 16, 3) := by decide +kernel
theorem dX10_carried_23 : decode cX10_carried 23 = .ok (.iload_n 2, 1) := by decide +kernel
theorem dX10_carried_24 : decode cX10_carried 24 = .ok (.iconst 1, 1) := by decide +kernel
theorem dX10_carried_25 : decode cX10_carried 25 = .ok (.aload_n 0, 1) := by decide +kernel
theorem dX10_carried_26 : decode cX10_carried 26 = .ok (.iload_n 3, 1) := by decide +kernel
theorem dX10_carried_27 : decode cX10_carried 27 = .ok (.invokevirtual 353, 3) := by decide +kernel
theorem dX10_carried_30 : decode cX10_carried 30 = .ok (.bipush 48, 2) := by decide +kernel
theorem dX10_carried_32 : decode cX10_carried 32 = .ok (.isub, 1) := by decide +kernel
theorem dX10_carried_33 : decode cX10_carried 33 = .ok (.ishl, 1) := by decide +kernel
theorem dX10_carried_34 : decode cX10_carried 34 = .ok (.ior, 1) := by decide +kernel
theorem dX10_carried_35 : decode cX10_carried 35 = .ok (.istore_n 2, 1) := by decide +kernel
theorem dX10_carried_36 : decode cX10_carried 36 = .ok (.iinc 3 1, 3) := by decide +kernel
theorem dX10_carried_39 : decode cX10_carried 39 = .ok (.goto (-35), 3) := by decide +kernel
theorem dX10_carried_42 : decode cX10_carried 42 = .ok (.iload_n 2, 1) := by decide +kernel
theorem dX10_carried_43 : decode cX10_carried 43 = .ok (.ireturn, 1) := by decide +kernel
set_option maxHeartbeats 4000000 in
set_option maxRecDepth 100000 in
/-- ShirtWash.carried -/
theorem z_SW_carried (l : Launch) (D : va_G) (cI cJ cB cC : ClassId) (w0 : Nat) (tp : Nat) (ts : Int32) (wb : Int32) (ph : Nat) (pd : Int32) (ps : Nat) (cr : Nat) (lr : Nat) (hd : Nat) (pk : Nat) (gs : Nat) (ft : Nat → Int32) (h : Nat) (m1 : Nat) (m2 : Nat) (m3 : Nat) (mc : Int32) (sc : Int32) (tx : Int32) (nr : Int32) (ra : Int32) (ru : Int32) (dy : Int32) (wa : Int32) (se : Int32) (lw : Option Nat) (f1 : Nat → Int32) (f2 : Nat → Int32) (f3 : Nat → Int64) (a1 : Int32) (sz : Nat)  : Met l yX10_carried kwX10_carried ({ frames := 2, cells := 0, slots := 0, locals := 42 } : Room) (kPre D (kT cI cJ cB cC) sz [(w0, oX10 tp ts wb h ph pd ps cr lr hd pk gs), (tp, .inl (cI, 400, .inl ft)), (h, oX0 m1 m2 m3 mc sc tx nr ra ru dy wa se lw), (m1, .inl (cI, 50, .inl f1)), (m2, .inl (cI, 72, .inl f2)), (m3, .inl (cJ, 30, .inr (.inl f3)))] [.ref w0, .int a1]) (va_Qi (fun (r : Int32) (_ : Unit) => True) (fun (_ : Unit) (t : State) => kB D (kT cI cJ cB cC) (va_A [(w0, oX10 tp ts wb h ph pd ps cr lr hd pk gs), (tp, .inl (cI, 400, .inl ft)), (h, oX0 m1 m2 m3 mc sc tx nr ra ru dy wa se lw), (m1, .inl (cI, 50, .inl f1)), (m2, .inl (cI, 72, .inl f2)), (m3, .inl (cJ, 30, .inr (.inl f3)))] sz) [(w0, oX10 tp ts wb h ph pd ps cr lr hd pk gs), (tp, .inl (cI, 400, .inl ft)), (h, oX0 m1 m2 m3 mc sc tx nr ra ru dy wa se lw), (m1, .inl (cI, 50, .inl f1)), (m2, .inl (cI, 72, .inl f2)), (m3, .inl (cJ, 30, .inr (.inl f3)))] t) (va_A [(w0, oX10 tp ts wb h ph pd ps cr lr hd pk gs), (tp, .inl (cI, 400, .inl ft)), (h, oX0 m1 m2 m3 mc sc tx nr ra ru dy wa se lw), (m1, .inl (cI, 50, .inl f1)), (m2, .inl (cI, 72, .inl f2)), (m3, .inl (cJ, 30, .inr (.inl f3)))] sz)) 0 0 (va_A [(w0, oX10 tp ts wb h ph pd ps cr lr hd pk gs), (tp, .inl (cI, 400, .inl ft)), (h, oX0 m1 m2 m3 mc sc tx nr ra ru dy wa se lw), (m1, .inl (cI, 50, .inl f1)), (m2, .inl (cI, 72, .inl f2)), (m3, .inl (cJ, 30, .inr (.inl f3)))] sz) := by
  refine Met.ofW (cc := cX10_carried) (maxL := 4) (ret := (some .int)) (by decide) rfl ?_
  intro p e s m args below meth c s₁ B hml hv
  obtain ⟨rfl, hsz, hN, hE, hP, hK, hD0⟩ := hv
  have hx := B.exec
  have hb := B.bytes
  have hr := B.returns
  have hts := fun (w : Cond) (h : w ∈ kG) => atoms_spec (ws := kwX10_carried) B.pre w (List.mem_cons_of_mem _ h)
  have hown : s.vm.findClass RX10 = some m.cls := findClass_of_methodNamed B.named
  subst hsz
  have hD := hD0.self (sz := s.heap.size)
  generalize hAe : va_A [(w0, oX10 tp ts wb h ph pd ps cr lr hd pk gs), (tp, .inl (cI, 400, .inl ft)), (h, oX0 m1 m2 m3 mc sc tx nr ra ru dy wa se lw), (m1, .inl (cI, 50, .inl f1)), (m2, .inl (cI, 72, .inl f2)), (m3, .inl (cJ, 30, .inr (.inl f3)))] s.heap.size = A at hD hE ⊢
  have hA : ∀ q : Nat, s.heap.size ≤ q → A q := fun q h => by rw [← hAe]; exact Or.inr h
  have hl := lv_entry ([.ref w0, .int a1]) (n := 4) (Nat.le_of_ble_eq_true rfl)
  rw [lg_entry_eq]
  generalize (lg_sl ([.ref w0, .int a1]) ++ List.replicate (4 - (lg_sl ([.ref w0, .int a1])).length) Slot.unset).toArray = ls at hl ⊢
  have hl : lv_has ls 4 [(0, .ref w0), (1, .int a1)] := hl
  obtain ⟨H, hH0⟩ : ∃ H, H = s.heap := ⟨_, rfl⟩
  have hS : va_S A s.heap H [] := by rw [hH0]; exact va_S.rf
  have hP : va_P D vwCl [(w0, oX10 tp ts wb h ph pd ps cr lr hd pk gs), (tp, .inl (cI, 400, .inl ft)), (h, oX0 m1 m2 m3 mc sc tx nr ra ru dy wa se lw), (m1, .inl (cI, 50, .inl f1)), (m2, .inl (cI, 72, .inl f2)), (m3, .inl (cJ, 30, .inr (.inl f3)))] H := by rw [hH0]; exact hP
  refine kHeap hH0 ?_
  clear hH0
  refine lv_iconst (v := 0) hx hb dX10_carried_0 (by decide) ?_
  refine lv_istore_n (lv' := [(2, .int 0), (0, .ref w0), (1, .int a1)]) hx hb dX10_carried_1 rfl hl (by decide) rfl (fun ls hl => ?_)
  refine lv_iconst (v := 0) hx hb dX10_carried_2 (by decide) ?_
  refine lv_istore_n (lv' := [(3, .int 0), (2, .int 0), (0, .ref w0), (1, .int a1)]) hx hb dX10_carried_3 rfl hl (by decide) rfl (fun ls hl => ?_)
  refine k_loop (hd := 4) (fun (u : Int32 × Int32) => match u with | (y159, y160) => (2147483647 - (y159).toInt).toNat) (fun (u : Int32 × Int32) (H : Heap) (locs : List Loc) (ls : Array Slot) => match u with | (y159, y160) => Rg y159 0 2147483647 ∧ va_P D vwCl [(w0, oX10 tp ts wb h ph pd ps cr lr hd pk gs), (tp, .inl (cI, 400, .inl ft)), (h, oX0 m1 m2 m3 mc sc tx nr ra ru dy wa se lw), (m1, .inl (cI, 50, .inl f1)), (m2, .inl (cI, 72, .inl f2)), (m3, .inl (cJ, 30, .inr (.inl f3)))] H ∧ va_D A [(w0, oX10 tp ts wb h ph pd ps cr lr hd pk gs), (tp, .inl (cI, 400, .inl ft)), (h, oX0 m1 m2 m3 mc sc tx nr ra ru dy wa se lw), (m1, .inl (cI, 50, .inl f1)), (m2, .inl (cI, 72, .inl f2)), (m3, .inl (cJ, 30, .inr (.inl f3)))] ∧ va_S A s.heap H locs ∧ lv_has ls 4 [(3, .int y159), (2, .int y160), (0, .ref w0), (1, .int a1)]) ((0 : Int32), (0 : Int32)) ⟨(rg_w (rg_lit (n := 0) (by decide)) (by decide)), hP.sub (ws' := [(w0, oX10 tp ts wb h ph pd ps cr lr hd pk gs), (tp, .inl (cI, 400, .inl ft)), (h, oX0 m1 m2 m3 mc sc tx nr ra ru dy wa se lw), (m1, .inl (cI, 50, .inl f1)), (m2, .inl (cI, 72, .inl f2)), (m3, .inl (cJ, 30, .inr (.inl f3)))]) [0, 1, 2, 3, 4, 5] rfl, hD.sub (ws' := [(w0, oX10 tp ts wb h ph pd ps cr lr hd pk gs), (tp, .inl (cI, 400, .inl ft)), (h, oX0 m1 m2 m3 mc sc tx nr ra ru dy wa se lw), (m1, .inl (cI, 50, .inl f1)), (m2, .inl (cI, 72, .inl f2)), (m3, .inl (cJ, 30, .inr (.inl f3)))]) [0, 1, 2, 3, 4, 5] (by decide) rfl, hS, lv_sub (l' := [(3, .int 0), (2, .int 0), (0, .ref w0), (1, .int a1)]) hl [0, 1, 2, 3] rfl⟩ (fun u H locs ls hI ih161 => ?_)
  clear hP hD hS hl
  obtain ⟨y159, y160⟩ := u
  obtain ⟨hy159, hP, hD, hS, hl⟩ := hI
  have hP : va_P D vwCl [(w0, oX10 tp ts wb h ph pd ps cr lr hd pk gs), (tp, .inl (cI, 400, .inl ft)), (h, oX0 m1 m2 m3 mc sc tx nr ra ru dy wa se lw), (m1, .inl (cI, 50, .inl f1)), (m2, .inl (cI, 72, .inl f2)), (m3, .inl (cJ, 30, .inr (.inl f3)))] H := hP
  have hD : va_D A [(w0, oX10 tp ts wb h ph pd ps cr lr hd pk gs), (tp, .inl (cI, 400, .inl ft)), (h, oX0 m1 m2 m3 mc sc tx nr ra ru dy wa se lw), (m1, .inl (cI, 50, .inl f1)), (m2, .inl (cI, 72, .inl f2)), (m3, .inl (cJ, 30, .inr (.inl f3)))] := hD
  have hl : lv_has ls 4 [(3, .int y159), (2, .int y160), (0, .ref w0), (1, .int a1)] := hl
  refine lv_iload_n hx hb dX10_carried_4 rfl (lv_at hl 0 rfl) ?_
  refine lv_aload_n hx hb dX10_carried_5 rfl (lv_at hl 2 rfl) ?_
  refine va_get (D := D) (ci := 9) (v := .ref h) (C := RX10) (T := TX10) (N := 12) hx hb hts iG_X10 hown hK hP 0 rfl rfl 3 (by decide) (hts _ w0_20) (fun _ h9 => h9) rfl dX10_carried_6 ?_
  refine va_getN (D := D) (ci := 0) (v := .int mc) (C := RX0) (T := TX0) (N := 13) hx hb hts iG_X0 hown hK hP 2 rfl rfl 3 (by decide) (nF_3 hN) (fun _ h9 => h9) rfl dX10_carried_9 ?_
  refine lv_icmp_ge (tgt := 42) hx hb dX10_carried_12 (by decide) (fun c162 => ?_) (fun c162 => ?_)
  · skip
    refine lv_iload_n hx hb dX10_carried_42 rfl (lv_at hl 1 rfl) ?_
    have hP9 := hP.sub (ws' := [(w0, oX10 tp ts wb h ph pd ps cr lr hd pk gs), (tp, .inl (cI, 400, .inl ft)), (h, oX0 m1 m2 m3 mc sc tx nr ra ru dy wa se lw), (m1, .inl (cI, 50, .inl f1)), (m2, .inl (cI, 72, .inl f2)), (m3, .inl (cJ, 30, .inr (.inl f3)))]) [0, 1, 2, 3, 4, 5] rfl
    have hD9 := hD.sub (ws' := [(w0, oX10 tp ts wb h ph pd ps cr lr hd pk gs), (tp, .inl (cI, 400, .inl ft)), (h, oX0 m1 m2 m3 mc sc tx nr ra ru dy wa se lw), (m1, .inl (cI, 50, .inl f1)), (m2, .inl (cI, 72, .inl f2)), (m3, .inl (cJ, 30, .inr (.inl f3)))]) [0, 1, 2, 3, 4, 5] (by decide) rfl
    exact W.iret (v := y160) hx hb hr (fun t ht hW => ⟨⟨y160, (), rfl, trivial, by rw [ht]; exact hP9, va_K.moved hW.alike hK, hD9⟩, hS.F ht⟩) hS.2.2 dX10_carried_43
  · skip
    have k163 : Rg y159 0 2147483646 := rg_l1 (nleI c162) hy159 (rg_any mc) (by decide)
    have k164 : Rg mc 1 2147483647 := rg_l2 (nleI c162) hy159 (rg_any mc) (by decide)
    refine lv_iload_n hx hb dX10_carried_15 rfl (lv_at hl 3 rfl) ?_
    refine lv_iload_n hx hb dX10_carried_16 rfl (lv_at hl 0 rfl) ?_
    refine lv_ishr hx hb dX10_carried_17 ?_
    refine lv_topi (fun x165 ex165 => ?_)
    clear ex165
    refine lv_iconst (v := 1) hx hb dX10_carried_18 (by decide) ?_
    refine lv_iand hx hb dX10_carried_19 ?_
    refine lv_topi (fun x166 ex166 => ?_)
    have k167 : Rg x166 0 1 := rg_andr ex166 (rg_lit (n := 1) (by decide)) (by decide)
    clear ex166
    refine k_join (hd := 36) (cells2 := 0) (slots2 := 0) (fun (y176 : Int32) => []) (fun (y176 : Int32) (H : Heap) (locs : List Loc) (ls : Array Slot) => va_P D vwCl [(w0, oX10 tp ts wb h ph pd ps cr lr hd pk gs), (tp, .inl (cI, 400, .inl ft)), (h, oX0 m1 m2 m3 mc sc tx nr ra ru dy wa se lw), (m1, .inl (cI, 50, .inl f1)), (m2, .inl (cI, 72, .inl f2)), (m3, .inl (cJ, 30, .inr (.inl f3)))] H ∧ va_D A [(w0, oX10 tp ts wb h ph pd ps cr lr hd pk gs), (tp, .inl (cI, 400, .inl ft)), (h, oX0 m1 m2 m3 mc sc tx nr ra ru dy wa se lw), (m1, .inl (cI, 50, .inl f1)), (m2, .inl (cI, 72, .inl f2)), (m3, .inl (cJ, 30, .inr (.inl f3)))] ∧ va_S A s.heap H locs ∧ lv_has ls 4 [(3, .int y159), (2, .int y176), (0, .ref w0), (1, .int a1)]) (fun u H locs ls hI => ?_) (fun hJ36 => ?_)
    · skip
      clear hP hD hS hl
      obtain ⟨y176, rfl⟩ : ∃ z, z = u := ⟨_, rfl⟩
      obtain ⟨hP, hD, hS, hl⟩ := hI
      have hP : va_P D vwCl [(w0, oX10 tp ts wb h ph pd ps cr lr hd pk gs), (tp, .inl (cI, 400, .inl ft)), (h, oX0 m1 m2 m3 mc sc tx nr ra ru dy wa se lw), (m1, .inl (cI, 50, .inl f1)), (m2, .inl (cI, 72, .inl f2)), (m3, .inl (cJ, 30, .inr (.inl f3)))] H := hP
      have hD : va_D A [(w0, oX10 tp ts wb h ph pd ps cr lr hd pk gs), (tp, .inl (cI, 400, .inl ft)), (h, oX0 m1 m2 m3 mc sc tx nr ra ru dy wa se lw), (m1, .inl (cI, 50, .inl f1)), (m2, .inl (cI, 72, .inl f2)), (m3, .inl (cJ, 30, .inr (.inl f3)))] := hD
      have hl : lv_has ls 4 [(3, .int y159), (2, .int y176), (0, .ref w0), (1, .int a1)] := hl
      obtain ⟨x177, ex177⟩ : ∃ y : Int32, y = y159 + 1 := ⟨_, rfl⟩
      refine lv_iinc (v := x177) (lv' := [(3, .int x177), (2, .int y176), (0, .ref w0), (1, .int a1)]) hx hb dX10_carried_36 hl (k := 0) rfl (by rw [ex177]; rfl) (by decide) rfl (fun ls hl => ?_)
      have k178 : Rg x177 1 2147483647 := rg_add ex177 k163 (rg_lit (n := 1) (by decide)) (by decide)
      refine lv_goto (tgt := 4) hx hb dX10_carried_39 (by decide) ?_
      exact ih161 (x177, y176) _ _ _ (by show (2147483647 - (x177).toInt).toNat < (2147483647 - (y159).toInt).toNat; exact mu_up ex177 k163 k178 (by decide)) ⟨(rg_w k178 (by decide)), hP.sub (ws' := [(w0, oX10 tp ts wb h ph pd ps cr lr hd pk gs), (tp, .inl (cI, 400, .inl ft)), (h, oX0 m1 m2 m3 mc sc tx nr ra ru dy wa se lw), (m1, .inl (cI, 50, .inl f1)), (m2, .inl (cI, 72, .inl f2)), (m3, .inl (cJ, 30, .inr (.inl f3)))]) [0, 1, 2, 3, 4, 5] rfl, hD.sub (ws' := [(w0, oX10 tp ts wb h ph pd ps cr lr hd pk gs), (tp, .inl (cI, 400, .inl ft)), (h, oX0 m1 m2 m3 mc sc tx nr ra ru dy wa se lw), (m1, .inl (cI, 50, .inl f1)), (m2, .inl (cI, 72, .inl f2)), (m3, .inl (cJ, 30, .inr (.inl f3)))]) [0, 1, 2, 3, 4, 5] (by decide) rfl, hS, lv_sub (l' := [(3, .int x177), (2, .int y176), (0, .ref w0), (1, .int a1)]) hl [0, 1, 2, 3] rfl⟩
    refine lv_if_eq (tgt := 36) hx hb dX10_carried_20 (by decide) (fun c179 => ?_) (fun c179 => ?_)
    · skip
      have k180 : Rg x166 0 0 := rg_q1 (eqI c179) k167 (rg_lit (n := 0) (by decide)) (by decide)
      exact hJ36 (y160) _ _ _ ⟨hP.sub (ws' := [(w0, oX10 tp ts wb h ph pd ps cr lr hd pk gs), (tp, .inl (cI, 400, .inl ft)), (h, oX0 m1 m2 m3 mc sc tx nr ra ru dy wa se lw), (m1, .inl (cI, 50, .inl f1)), (m2, .inl (cI, 72, .inl f2)), (m3, .inl (cJ, 30, .inr (.inl f3)))]) [0, 1, 2, 3, 4, 5] rfl, hD.sub (ws' := [(w0, oX10 tp ts wb h ph pd ps cr lr hd pk gs), (tp, .inl (cI, 400, .inl ft)), (h, oX0 m1 m2 m3 mc sc tx nr ra ru dy wa se lw), (m1, .inl (cI, 50, .inl f1)), (m2, .inl (cI, 72, .inl f2)), (m3, .inl (cJ, 30, .inr (.inl f3)))]) [0, 1, 2, 3, 4, 5] (by decide) rfl, hS, lv_sub (l' := [(3, .int y159), (2, .int y160), (0, .ref w0), (1, .int a1)]) hl [0, 1, 2, 3] rfl⟩
    · skip
      have k181 : Rg x166 1 1 := rg_n1 (neI c179) k167 (rg_lit (n := 0) (by decide)) (by decide)
      refine lv_iload_n hx hb dX10_carried_23 rfl (lv_at hl 1 rfl) ?_
      refine lv_iconst (v := 1) hx hb dX10_carried_24 (by decide) ?_
      refine lv_aload_n hx hb dX10_carried_25 rfl (lv_at hl 2 rfl) ?_
      refine lv_iload_n hx hb dX10_carried_26 rfl (lv_at hl 0 rfl) ?_
      refine kpurei (wc := [(w0, oX10 tp ts wb h ph pd ps cr lr hd pk gs), (tp, .inl (cI, 400, .inl ft))]) hP hD hS hA [0, 1] rfl (by decide) (fun hPc hDc hFc => va_runV (As := [.int y159]) (rest := [.int 1, .int y160]) ⟨hx, hb, hml, hown, hts⟩ (z_SW_byteAt l D cI cJ cB cC w0 tp ts wb ph pd ps cr lr hd pk gs ft h y159 H.size) (cwV 1 hts gX10_carried_X10_byteAt rfl rfl rfl ⟨rfl, hdX10_byteAt⟩ ⟨Nat.le_of_ble_eq_true rfl, Nat.le_of_ble_eq_true rfl⟩) ⟨kBlind, va_recv hK hPc (ci := 9) (q0 := 0) rfl rfl, fun U hU hW => ⟨rfl, by rw [hU], hN.warm hW, hE.pass hS hFc hW hU, by rw [hU]; exact hPc, va_K.moved hW.alike hK, hDc⟩⟩ rfl rfl hl.1 rfl (lv_room (Nat.le_of_ble_eq_true rfl)) dX10_carried_27 ⟨Nat.le_of_ble_eq_true rfl, Nat.le_of_ble_eq_true rfl⟩) (fun r182 u H locs hw hP hS => ?_)
      refine lv_bipush (v := 48) hx hb dX10_carried_30 (by decide) ?_
      refine lv_isub hx hb dX10_carried_32 ?_
      refine lv_topi (fun x183 ex183 => ?_)
      clear ex183
      refine lv_ishl hx hb dX10_carried_33 ?_
      refine lv_topi (fun x184 ex184 => ?_)
      clear ex184
      refine lv_ior hx hb dX10_carried_34 ?_
      refine lv_topi (fun x185 ex185 => ?_)
      clear ex185
      refine lv_istore_n (lv' := [(2, .int x185), (3, .int y159), (0, .ref w0), (1, .int a1)]) hx hb dX10_carried_35 rfl hl (by decide) rfl (fun ls hl => ?_)
      exact hJ36 (x185) _ _ _ ⟨hP.sub (ws' := [(w0, oX10 tp ts wb h ph pd ps cr lr hd pk gs), (tp, .inl (cI, 400, .inl ft)), (h, oX0 m1 m2 m3 mc sc tx nr ra ru dy wa se lw), (m1, .inl (cI, 50, .inl f1)), (m2, .inl (cI, 72, .inl f2)), (m3, .inl (cJ, 30, .inr (.inl f3)))]) [0, 1, 2, 3, 4, 5] rfl, hD.sub (ws' := [(w0, oX10 tp ts wb h ph pd ps cr lr hd pk gs), (tp, .inl (cI, 400, .inl ft)), (h, oX0 m1 m2 m3 mc sc tx nr ra ru dy wa se lw), (m1, .inl (cI, 50, .inl f1)), (m2, .inl (cI, 72, .inl f2)), (m3, .inl (cJ, 30, .inr (.inl f3)))]) [0, 1, 2, 3, 4, 5] (by decide) rfl, hS, lv_sub (l' := [(3, .int y159), (2, .int x185), (0, .ref w0), (1, .int a1)]) hl [1, 0, 2, 3] rfl⟩

def kwX10_seed : List Cond := .code yX10_seed cX10_seed 3 (some .int) :: kG
theorem hdX10_seed : yX10_seed.cls ≠ "java/lang/invoke/MethodHandle" ∧ yX10_seed.cls ≠ "java/lang/invoke/VarHandle" ∧ (parseMethodDescriptor yX10_seed.desc).map (fun d => d.parameters.length) = some 1 := by decide +kernel
theorem dX10_seed_0 : decode cX10_seed 0 = .ok (.aload_n 0, 1) := by decide +kernel
theorem dX10_seed_1 : decode cX10_seed 1 = .ok (.getfield 23, 3) := by decide +kernel
theorem dX10_seed_4 : decode cX10_seed 4 = .ok (.getfield 318, 3) := by decide +kernel
theorem dX10_seed_7 : decode cX10_seed 7 = .ok (.istore_n 2, 1) := by decide +kernel
theorem dX10_seed_8 : decode cX10_seed 8 = .ok (.aload_n 0, 1) := by decide +kernel
theorem dX10_seed_9 : decode cX10_seed 9 = .ok (.getfield 23, 3) := by decide +kernel
theorem dX10_seed_12 : decode cX10_seed 12 = .ok (.iload_n 1, 1) := by decide +kernel
theorem dX10_seed_13 : decode cX10_seed 13 = .ok (.putfield 318, 3) := by decide +kernel
theorem dX10_seed_16 : decode cX10_seed 16 = .ok (.iload_n 2, 1) := by decide +kernel
theorem dX10_seed_17 : decode cX10_seed 17 = .ok (.ireturn, 1) := by decide +kernel
set_option maxHeartbeats 4000000 in
set_option maxRecDepth 100000 in
/-- ShirtWash.seed -/
theorem z_SW_seed (l : Launch) (D : va_G) (cI cJ cB cC : ClassId) (w0 : Nat) (tp : Nat) (ts : Int32) (wb : Int32) (ph : Nat) (pd : Int32) (ps : Nat) (cr : Nat) (lr : Nat) (hd : Nat) (pk : Nat) (gs : Nat) (h : Nat) (m1 : Nat) (m2 : Nat) (m3 : Nat) (mc : Int32) (sc : Int32) (tx : Int32) (nr : Int32) (ra : Int32) (ru : Int32) (dy : Int32) (wa : Int32) (se : Int32) (lw : Option Nat) (f1 : Nat → Int32) (f2 : Nat → Int32) (f3 : Nat → Int64) (a1 : Int32) (sz : Nat)  : Met l yX10_seed kwX10_seed ({ frames := 0, cells := 0, slots := 0, locals := 0 } : Room) (kPre D (kT cI cJ cB cC) sz [(w0, oX10 tp ts wb h ph pd ps cr lr hd pk gs), (h, oX0 m1 m2 m3 mc sc tx nr ra ru dy wa se lw), (m1, .inl (cI, 50, .inl f1)), (m2, .inl (cI, 72, .inl f2)), (m3, .inl (cJ, 30, .inr (.inl f3)))] [.ref w0, .int a1]) (va_Qi (fun (r : Int32) (n0_ : Int32) => True) (fun (n0_ : Int32) (t : State) => kB D (kT cI cJ cB cC) (va_A [(w0, oX10 tp ts wb h ph pd ps cr lr hd pk gs), (h, oX0 m1 m2 m3 mc sc tx nr ra ru dy wa se lw), (m1, .inl (cI, 50, .inl f1)), (m2, .inl (cI, 72, .inl f2)), (m3, .inl (cJ, 30, .inr (.inl f3)))] sz) [(w0, oX10 tp ts wb h ph pd ps cr lr hd pk gs), (h, oX0 m1 m2 m3 mc sc tx nr ra ru dy wa n0_ lw), (m1, .inl (cI, 50, .inl f1)), (m2, .inl (cI, 72, .inl f2)), (m3, .inl (cJ, 30, .inr (.inl f3)))] t) (va_A [(w0, oX10 tp ts wb h ph pd ps cr lr hd pk gs), (h, oX0 m1 m2 m3 mc sc tx nr ra ru dy wa se lw), (m1, .inl (cI, 50, .inl f1)), (m2, .inl (cI, 72, .inl f2)), (m3, .inl (cJ, 30, .inr (.inl f3)))] sz)) 0 0 (va_A [(w0, oX10 tp ts wb h ph pd ps cr lr hd pk gs), (h, oX0 m1 m2 m3 mc sc tx nr ra ru dy wa se lw), (m1, .inl (cI, 50, .inl f1)), (m2, .inl (cI, 72, .inl f2)), (m3, .inl (cJ, 30, .inr (.inl f3)))] sz) := by
  refine Met.ofW (cc := cX10_seed) (maxL := 3) (ret := (some .int)) (by decide) rfl ?_
  intro p e s m args below meth c s₁ B hml hv
  obtain ⟨rfl, hsz, hN, hE, hP, hK, hD0⟩ := hv
  have hx := B.exec
  have hb := B.bytes
  have hr := B.returns
  have hts := fun (w : Cond) (h : w ∈ kG) => atoms_spec (ws := kwX10_seed) B.pre w (List.mem_cons_of_mem _ h)
  have hown : s.vm.findClass RX10 = some m.cls := findClass_of_methodNamed B.named
  subst hsz
  have hD := hD0.self (sz := s.heap.size)
  generalize hAe : va_A [(w0, oX10 tp ts wb h ph pd ps cr lr hd pk gs), (h, oX0 m1 m2 m3 mc sc tx nr ra ru dy wa se lw), (m1, .inl (cI, 50, .inl f1)), (m2, .inl (cI, 72, .inl f2)), (m3, .inl (cJ, 30, .inr (.inl f3)))] s.heap.size = A at hD hE ⊢
  have hA : ∀ q : Nat, s.heap.size ≤ q → A q := fun q h => by rw [← hAe]; exact Or.inr h
  have hl := lv_entry ([.ref w0, .int a1]) (n := 3) (Nat.le_of_ble_eq_true rfl)
  rw [lg_entry_eq]
  generalize (lg_sl ([.ref w0, .int a1]) ++ List.replicate (3 - (lg_sl ([.ref w0, .int a1])).length) Slot.unset).toArray = ls at hl ⊢
  have hl : lv_has ls 3 [(0, .ref w0), (1, .int a1)] := hl
  obtain ⟨H, hH0⟩ : ∃ H, H = s.heap := ⟨_, rfl⟩
  have hS : va_S A s.heap H [] := by rw [hH0]; exact va_S.rf
  have hP : va_P D vwCl [(w0, oX10 tp ts wb h ph pd ps cr lr hd pk gs), (h, oX0 m1 m2 m3 mc sc tx nr ra ru dy wa se lw), (m1, .inl (cI, 50, .inl f1)), (m2, .inl (cI, 72, .inl f2)), (m3, .inl (cJ, 30, .inr (.inl f3)))] H := by rw [hH0]; exact hP
  refine kHeap hH0 ?_
  clear hH0
  refine lv_aload_n hx hb dX10_seed_0 rfl (lv_at hl 0 rfl) ?_
  refine va_get (D := D) (ci := 9) (v := .ref h) (C := RX10) (T := TX10) (N := 12) hx hb hts iG_X10 hown hK hP 0 rfl rfl 3 (by decide) (hts _ w0_20) (fun _ h9 => h9) rfl dX10_seed_1 ?_
  refine va_getN (D := D) (ci := 0) (v := .int se) (C := RX0) (T := TX0) (N := 13) hx hb hts iG_X0 hown hK hP 1 rfl rfl 11 (by decide) (nF_17 hN) (fun _ h9 => h9) rfl dX10_seed_4 ?_
  refine lv_istore_n (lv' := [(2, .int se), (0, .ref w0), (1, .int a1)]) hx hb dX10_seed_7 rfl hl (by decide) rfl (fun ls hl => ?_)
  refine lv_aload_n hx hb dX10_seed_8 rfl (lv_at hl 1 rfl) ?_
  refine va_get (D := D) (ci := 9) (v := .ref h) (C := RX10) (T := TX10) (N := 12) hx hb hts iG_X10 hown hK hP 0 rfl rfl 3 (by decide) (hts _ w0_20) (fun _ h9 => h9) rfl dX10_seed_9 ?_
  refine lv_iload_n hx hb dX10_seed_12 rfl (lv_at hl 2 rfl) ?_
  refine va_putN (D := D) (ci := 0) (v := .int a1) (ty := .int) (C := RX0) (T := TX0) (N := 13) hx hb hts iG_X0 tyX0 tyX0_ok nmX0 hown hK hP hD hS 1 rfl rfl 11 (by decide) (nF_17 hN) (fun _ h9 => h9) rfl (by decide +kernel) rfl rfl (Nat.le_of_ble_eq_true rfl) dX10_seed_13 (fun H locs hP hD hS => ?_)
  have hP : va_P D vwCl [(w0, oX10 tp ts wb h ph pd ps cr lr hd pk gs), (h, oX0 m1 m2 m3 mc sc tx nr ra ru dy wa a1 lw), (m1, .inl (cI, 50, .inl f1)), (m2, .inl (cI, 72, .inl f2)), (m3, .inl (cJ, 30, .inr (.inl f3)))] H := hP
  have hD : va_D A [(w0, oX10 tp ts wb h ph pd ps cr lr hd pk gs), (h, oX0 m1 m2 m3 mc sc tx nr ra ru dy wa a1 lw), (m1, .inl (cI, 50, .inl f1)), (m2, .inl (cI, 72, .inl f2)), (m3, .inl (cJ, 30, .inr (.inl f3)))] := hD
  refine lv_iload_n hx hb dX10_seed_16 rfl (lv_at hl 0 rfl) ?_
  have hP9 := hP.sub (ws' := [(w0, oX10 tp ts wb h ph pd ps cr lr hd pk gs), (h, oX0 m1 m2 m3 mc sc tx nr ra ru dy wa a1 lw), (m1, .inl (cI, 50, .inl f1)), (m2, .inl (cI, 72, .inl f2)), (m3, .inl (cJ, 30, .inr (.inl f3)))]) [0, 1, 2, 3, 4] rfl
  have hD9 := hD.sub (ws' := [(w0, oX10 tp ts wb h ph pd ps cr lr hd pk gs), (h, oX0 m1 m2 m3 mc sc tx nr ra ru dy wa a1 lw), (m1, .inl (cI, 50, .inl f1)), (m2, .inl (cI, 72, .inl f2)), (m3, .inl (cJ, 30, .inr (.inl f3)))]) [0, 1, 2, 3, 4] (by decide) rfl
  exact W.iret (v := se) hx hb hr (fun t ht hW => ⟨⟨se, (a1), rfl, trivial, by rw [ht]; exact hP9, va_K.moved hW.alike hK, hD9⟩, hS.F ht⟩) hS.2.2 dX10_seed_17

