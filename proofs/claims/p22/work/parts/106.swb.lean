def kwX10_tellsShirtsOnce : List Cond := .code yX10_tellsShirtsOnce cX10_tellsShirtsOnce 5 (some .boolean) :: kG
theorem hdX10_tellsShirtsOnce : yX10_tellsShirtsOnce.cls ≠ "java/lang/invoke/MethodHandle" ∧ yX10_tellsShirtsOnce.cls ≠ "java/lang/invoke/VarHandle" ∧ (parseMethodDescriptor yX10_tellsShirtsOnce.desc).map (fun d => d.parameters.length) = some 1 := by decide +kernel
theorem gX10_tellsShirtsOnce_X0_isShirt_n157 : GoodIn kG (kwX0_isShirt) := gK w15_6 gGG
theorem gX10_tellsShirtsOnce_X10_shirtAt : GoodIn kG (wsV RX10 356 RX10 yX10_shirtAt kwX10_shirtAt) := gK w36_11 (gK w36_12 (gK w36_13 (gK w0_2 (gK w36_14 gGG))))
theorem dX10_tellsShirtsOnce_0 : decode cX10_tellsShirtsOnce 0 = .ok (.iconst 0, 1) := by decide +kernel
theorem dX10_tellsShirtsOnce_1 : decode cX10_tellsShirtsOnce 1 = .ok (.istore_n 2, 1) := by decide +kernel
theorem dX10_tellsShirtsOnce_2 : decode cX10_tellsShirtsOnce 2 = .ok (.iconst 0, 1) := by decide +kernel
theorem dX10_tellsShirtsOnce_3 : decode cX10_tellsShirtsOnce 3 = .ok (.istore_n 3, 1) := by decide +kernel
theorem dX10_tellsShirtsOnce_4 : decode cX10_tellsShirtsOnce 4 = .ok (.iload_n 3, 1) := by decide +kernel
theorem dX10_tellsShirtsOnce_5 : decode cX10_tellsShirtsOnce 5 = .ok (.iload_n 1, 1) := by decide +kernel
theorem dX10_tellsShirtsOnce_6 : decode cX10_tellsShirtsOnce 6 = .ok (.if_icmp .ge 46, 3) := by decide +kernel
theorem dX10_tellsShirtsOnce_9 : decode cX10_tellsShirtsOnce 9 = .ok (.aload_n 0, 1) := by decide +kernel
theorem dX10_tellsShirtsOnce_10 : decode cX10_tellsShirtsOnce 10 = .ok (.iload_n 3, 1) := by decide +kernel
theorem dX10_tellsShirtsOnce_11 : decode cX10_tellsShirtsOnce 11 = .ok (.invokevirtual 356, 3) := by decide +kernel
theorem dX10_tellsShirtsOnce_14 : decode cX10_tellsShirtsOnce 14 = .ok (.istore 4, 2) := by decide +kernel
theorem dX10_tellsShirtsOnce_16 : decode cX10_tellsShirtsOnce 16 = .ok (.aload_n 0, 1) := by decide +kernel
theorem dX10_tellsShirtsOnce_17 : decode cX10_tellsShirtsOnce 17 = .ok (.getfield 23, 3) := by decide +kernel
theorem dX10_tellsShirtsOnce_20 : decode cX10_tellsShirtsOnce 20 = .ok (.iload 4, 2) := by decide +kernel
theorem dX10_tellsShirtsOnce_22 : decode cX10_tellsShirtsOnce 22 = .ok (.invokevirtual 157, 3) := by decide +kernel
theorem dX10_tellsShirtsOnce_25 : decode cX10_tellsShirtsOnce 25 = .ok (.ifCond .eq 12, 3) := by decide +kernel
theorem dX10_tellsShirtsOnce_28 : decode cX10_tellsShirtsOnce 28 = .ok (.iload_n 2, 1) := by decide +kernel
theorem dX10_tellsShirtsOnce_29 : decode cX10_tellsShirtsOnce 29 = .ok (.iload 4, 2) := by decide +kernel
theorem dX10_tellsShirtsOnce_31 : decode cX10_tellsShirtsOnce 31 = .ok (.ishr, 1) := by decide +kernel
theorem dX10_tellsShirtsOnce_32 : decode cX10_tellsShirtsOnce 32 = .ok (.iconst 1, 1) := by decide +kernel
theorem dX10_tellsShirtsOnce_33 : decode cX10_tellsShirtsOnce 33 = .ok (.iand, 1) := by decide +kernel
theorem dX10_tellsShirtsOnce_34 : decode cX10_tellsShirtsOnce 34 = .ok (.ifCond .eq 5, 3) := by decide +kernel
theorem dX10_tellsShirtsOnce_37 : decode cX10_tellsShirtsOnce 37 = .ok (.iconst 0, 1) := by decide +kernel
theorem dX10_tellsShirtsOnce_38 : decode cX10_tellsShirtsOnce 38 = .ok (.ireturn, 1) := by decide +kernel
theorem dX10_tellsShirtsOnce_39 : decode cX10_tellsShirtsOnce 39 = .ok (.iload_n 2, 1) := by decide +kernel
theorem dX10_tellsShirtsOnce_40 : decode cX10_tellsShirtsOnce 40 = .ok (.iconst 1, 1) := by decide +kernel
theorem dX10_tellsShirtsOnce_41 : decode cX10_tellsShirtsOnce 41 = .ok (.iload 4, 2) := by decide +kernel
theorem dX10_tellsShirtsOnce_43 : decode cX10_tellsShirtsOnce 43 = .ok (.ishl, 1) := by decide +kernel
theorem dX10_tellsShirtsOnce_44 : decode cX10_tellsShirtsOnce 44 = .ok (.ior, 1) := by decide +kernel
theorem dX10_tellsShirtsOnce_45 : decode cX10_tellsShirtsOnce 45 = .ok (.istore_n 2, 1) := by decide +kernel
theorem dX10_tellsShirtsOnce_46 : decode cX10_tellsShirtsOnce 46 = .ok (.iinc 3 1, 3) := by decide +kernel
theorem dX10_tellsShirtsOnce_49 : decode cX10_tellsShirtsOnce 49 = .ok (.goto (-45), 3) := by decide +kernel
theorem dX10_tellsShirtsOnce_52 : decode cX10_tellsShirtsOnce 52 = .ok (.iconst 1, 1) := by decide +kernel
theorem dX10_tellsShirtsOnce_53 : decode cX10_tellsShirtsOnce 53 = .ok (.ireturn, 1) := by decide +kernel
set_option maxHeartbeats 4000000 in
set_option maxRecDepth 100000 in
/-- ShirtWash.tellsShirtsOnce -/
theorem z_SW_tellsShirtsOnce (l : Launch) (D : va_G) (cI cJ cB cC : ClassId) (w0 : Nat) (tp : Nat) (ts : Int32) (wb : Int32) (ph : Nat) (pd : Int32) (ps : Nat) (cr : Nat) (lr : Nat) (hd : Nat) (pk : Nat) (gs : Nat) (ft : Nat → Int32) (h : Nat) (m1 : Nat) (m2 : Nat) (m3 : Nat) (mc : Int32) (sc : Int32) (tx : Int32) (nr : Int32) (ra : Int32) (ru : Int32) (dy : Int32) (wa : Int32) (se : Int32) (lw : Option Nat) (f1 : Nat → Int32) (f2 : Nat → Int32) (f3 : Nat → Int64) (a1 : Int32) (sz : Nat)  : Met l yX10_tellsShirtsOnce kwX10_tellsShirtsOnce ({ frames := 3, cells := 0, slots := 0, locals := 63 } : Room) (kPre D (kT cI cJ cB cC) sz [(w0, oX10 tp ts wb h ph pd ps cr lr hd pk gs), (tp, kcI cI 400 ft), (h, oX0 m1 m2 m3 mc sc tx nr ra ru dy wa se lw), (m1, kcI cI 50 f1), (m2, kcI cI 72 f2), (m3, kcJ cJ 30 f3)] [.ref w0, .int a1]) (va_Qi (fun (r : Int32) (_ : Unit) => F_z_SW_tellsShirtsOnce (gT ft) (sc : Int32).toInt (a1 : Int32).toInt = ((r : Int32).toInt) ∧ ((r = 0 ∧ Rg a1 1 2147483647) ∨ (r = 1))) (fun (_ : Unit) (t : State) => kB D (kT cI cJ cB cC) (va_A [(w0, oX10 tp ts wb h ph pd ps cr lr hd pk gs), (tp, kcI cI 400 ft), (h, oX0 m1 m2 m3 mc sc tx nr ra ru dy wa se lw), (m1, kcI cI 50 f1), (m2, kcI cI 72 f2), (m3, kcJ cJ 30 f3)] sz) [(w0, oX10 tp ts wb h ph pd ps cr lr hd pk gs), (tp, kcI cI 400 ft), (h, oX0 m1 m2 m3 mc sc tx nr ra ru dy wa se lw), (m1, kcI cI 50 f1), (m2, kcI cI 72 f2), (m3, kcJ cJ 30 f3)] t) (va_A [(w0, oX10 tp ts wb h ph pd ps cr lr hd pk gs), (tp, kcI cI 400 ft), (h, oX0 m1 m2 m3 mc sc tx nr ra ru dy wa se lw), (m1, kcI cI 50 f1), (m2, kcI cI 72 f2), (m3, kcJ cJ 30 f3)] sz)) 0 0 (va_A [(w0, oX10 tp ts wb h ph pd ps cr lr hd pk gs), (tp, kcI cI 400 ft), (h, oX0 m1 m2 m3 mc sc tx nr ra ru dy wa se lw), (m1, kcI cI 50 f1), (m2, kcI cI 72 f2), (m3, kcJ cJ 30 f3)] sz) := by
  refine Met.ofW (cc := cX10_tellsShirtsOnce) (maxL := 5) (ret := (some .boolean)) (by decide) rfl ?_
  intro p e s m args below meth c s₁ B hml hv
  obtain ⟨rfl, hsz, hN, hE, hP, hK, hD0⟩ := hv
  have hx := B.exec
  have hb := B.bytes
  have hr := B.returns
  have hts := fun (w : Cond) (h : w ∈ kG) => atoms_spec (ws := kwX10_tellsShirtsOnce) B.pre w (List.mem_cons_of_mem _ h)
  have hown : s.vm.findClass RX10 = some m.cls := findClass_of_methodNamed B.named
  subst hsz
  have hD := hD0.self (sz := s.heap.size)
  generalize hAe : va_A [(w0, oX10 tp ts wb h ph pd ps cr lr hd pk gs), (tp, kcI cI 400 ft), (h, oX0 m1 m2 m3 mc sc tx nr ra ru dy wa se lw), (m1, kcI cI 50 f1), (m2, kcI cI 72 f2), (m3, kcJ cJ 30 f3)] s.heap.size = A at hD hE ⊢
  have hA : ∀ q : Nat, s.heap.size ≤ q → A q := fun q h => by rw [← hAe]; exact Or.inr h
  have hl := lv_entry ([.ref w0, .int a1]) (n := 5) (Nat.le_of_ble_eq_true rfl)
  rw [lg_entry_eq]
  generalize (lg_sl ([.ref w0, .int a1]) ++ List.replicate (5 - (lg_sl ([.ref w0, .int a1])).length) Slot.unset).toArray = ls at hl ⊢
  have hl : lv_has ls 5 [(0, .ref w0), (1, .int a1)] := hl
  obtain ⟨H, hH0⟩ : ∃ H, H = s.heap := ⟨_, rfl⟩
  have hS : va_S A s.heap H [] := by rw [hH0]; exact va_S.rf
  have hP : va_P D vwCl [(w0, oX10 tp ts wb h ph pd ps cr lr hd pk gs), (tp, kcI cI 400 ft), (h, oX0 m1 m2 m3 mc sc tx nr ra ru dy wa se lw), (m1, kcI cI 50 f1), (m2, kcI cI 72 f2), (m3, kcJ cJ 30 f3)] H := by rw [hH0]; exact hP
  refine kHeap hH0 ?_
  clear hH0
  refine lv_iconst (v := 0) hx hb dX10_tellsShirtsOnce_0 (by decide) ?_
  refine lv_istore_n (lv' := [(2, .int 0), (0, .ref w0), (1, .int a1)]) hx hb dX10_tellsShirtsOnce_1 rfl hl (by decide) rfl (fun ls hl => ?_)
  refine lv_iconst (v := 0) hx hb dX10_tellsShirtsOnce_2 (by decide) ?_
  refine lv_istore_n (lv' := [(3, .int 0), (2, .int 0), (0, .ref w0), (1, .int a1)]) hx hb dX10_tellsShirtsOnce_3 rfl hl (by decide) rfl (fun ls hl => ?_)
  refine k_loop (hd := 4) (fun (u : Int32 × Int32) => match u with | (y194, y195) => (2147483647 - (y194).toInt).toNat) (fun (u : Int32 × Int32) (H : Heap) (locs : List Loc) (ls : Array Slot) => match u with | (y194, y195) => (F_z_SW_tellsShirtsOnce (gT ft) sc.toInt a1.toInt = F_z_SW_tellsShirtsOnce_l1 (gT ft) sc.toInt a1.toInt (y194.toInt, y195.toInt)) ∧ Rg y194 0 2147483647 ∧ va_P D vwCl [(w0, oX10 tp ts wb h ph pd ps cr lr hd pk gs), (tp, kcI cI 400 ft), (h, oX0 m1 m2 m3 mc sc tx nr ra ru dy wa se lw), (m1, kcI cI 50 f1), (m2, kcI cI 72 f2), (m3, kcJ cJ 30 f3)] H ∧ va_D A [(w0, oX10 tp ts wb h ph pd ps cr lr hd pk gs), (tp, kcI cI 400 ft), (h, oX0 m1 m2 m3 mc sc tx nr ra ru dy wa se lw), (m1, kcI cI 50 f1), (m2, kcI cI 72 f2), (m3, kcJ cJ 30 f3)] ∧ va_S A s.heap H locs ∧ lv_has ls 5 [(3, .int y194), (2, .int y195), (0, .ref w0), (1, .int a1)]) ((0 : Int32), (0 : Int32)) ⟨rfl, (rg_w (rg_lit (n := 0) (by decide)) (by decide)), hP.sub (ws' := [(w0, oX10 tp ts wb h ph pd ps cr lr hd pk gs), (tp, kcI cI 400 ft), (h, oX0 m1 m2 m3 mc sc tx nr ra ru dy wa se lw), (m1, kcI cI 50 f1), (m2, kcI cI 72 f2), (m3, kcJ cJ 30 f3)]) [0, 1, 2, 3, 4, 5] rfl, hD.sub (ws' := [(w0, oX10 tp ts wb h ph pd ps cr lr hd pk gs), (tp, kcI cI 400 ft), (h, oX0 m1 m2 m3 mc sc tx nr ra ru dy wa se lw), (m1, kcI cI 50 f1), (m2, kcI cI 72 f2), (m3, kcJ cJ 30 f3)]) [0, 1, 2, 3, 4, 5] (by decide) rfl, hS, lv_sub (l' := [(3, .int 0), (2, .int 0), (0, .ref w0), (1, .int a1)]) hl [0, 1, 2, 3] rfl⟩ (fun u H locs ls hI ih196 => ?_)
  clear hP hD hS hl
  obtain ⟨y194, y195⟩ := u
  obtain ⟨hF1, hy194, hP, hD, hS, hl⟩ := hI
  have hP : va_P D vwCl [(w0, oX10 tp ts wb h ph pd ps cr lr hd pk gs), (tp, kcI cI 400 ft), (h, oX0 m1 m2 m3 mc sc tx nr ra ru dy wa se lw), (m1, kcI cI 50 f1), (m2, kcI cI 72 f2), (m3, kcJ cJ 30 f3)] H := hP
  have hD : va_D A [(w0, oX10 tp ts wb h ph pd ps cr lr hd pk gs), (tp, kcI cI 400 ft), (h, oX0 m1 m2 m3 mc sc tx nr ra ru dy wa se lw), (m1, kcI cI 50 f1), (m2, kcI cI 72 f2), (m3, kcJ cJ 30 f3)] := hD
  have hl : lv_has ls 5 [(3, .int y194), (2, .int y195), (0, .ref w0), (1, .int a1)] := hl
  refine lv_iload_n hx hb dX10_tellsShirtsOnce_4 rfl (lv_at hl 0 rfl) ?_
  refine lv_iload_n hx hb dX10_tellsShirtsOnce_5 rfl (lv_at hl 3 rfl) ?_
  refine lv_icmp_ge (tgt := 52) hx hb dX10_tellsShirtsOnce_6 (by decide) (fun c197 => ?_) (fun c197 => ?_)
  · skip
    refine lv_iconst (v := 1) hx hb dX10_tellsShirtsOnce_52 (by decide) ?_
    have hP9 := hP.sub (ws' := [(w0, oX10 tp ts wb h ph pd ps cr lr hd pk gs), (tp, kcI cI 400 ft), (h, oX0 m1 m2 m3 mc sc tx nr ra ru dy wa se lw), (m1, kcI cI 50 f1), (m2, kcI cI 72 f2), (m3, kcJ cJ 30 f3)]) [0, 1, 2, 3, 4, 5] rfl
    have hD9 := hD.sub (ws' := [(w0, oX10 tp ts wb h ph pd ps cr lr hd pk gs), (tp, kcI cI 400 ft), (h, oX0 m1 m2 m3 mc sc tx nr ra ru dy wa se lw), (m1, kcI cI 50 f1), (m2, kcI cI 72 f2), (m3, kcJ cJ 30 f3)]) [0, 1, 2, 3, 4, 5] (by decide) rfl
    exact W.zret (v := 1) hx hb hr (by decide) (fun t ht hW => ⟨⟨1, (), rfl, ⟨(hF1.trans (kIter_out (kC_eq rfl (kif_t (leI c197) rfl)))), (Or.inr rfl)⟩, by rw [ht]; exact hP9, va_K.moved hW.alike hK, hD9⟩, hS.F ht⟩) hS.2.2 dX10_tellsShirtsOnce_53
  · skip
    have k198 : Rg y194 0 2147483646 := rg_l1 (nleI c197) hy194 (rg_any a1) (by decide)
    have k199 : Rg a1 1 2147483647 := rg_l2 (nleI c197) hy194 (rg_any a1) (by decide)
    refine lv_aload_n hx hb dX10_tellsShirtsOnce_9 rfl (lv_at hl 2 rfl) ?_
    refine lv_iload_n hx hb dX10_tellsShirtsOnce_10 rfl (lv_at hl 0 rfl) ?_
    refine kpurei (wc := [(w0, oX10 tp ts wb h ph pd ps cr lr hd pk gs), (tp, kcI cI 400 ft)]) hP hD hS hA [0, 1] rfl (by decide) (fun hPc hDc hFc => va_runV (As := [.int y194]) (rest := []) ⟨hx, hb, hml, hown, hts⟩ (z_SW_shirtAt l D cI cJ cB cC w0 tp ts wb ph pd ps cr lr hd pk gs ft h y194 H.size) (cwV 1 hts gX10_tellsShirtsOnce_X10_shirtAt rfl rfl rfl ⟨rfl, hdX10_shirtAt⟩ ⟨Nat.le_of_ble_eq_true rfl, Nat.le_of_ble_eq_true rfl⟩) ⟨kBlind, va_recv hK hPc (ci := 9) (q0 := 0) rfl rfl, fun U hU hW => ⟨rfl, by rw [hU], hN.warm hW, hE.pass hS hFc hW hU, by rw [hU]; exact hPc, va_K.moved hW.alike hK, hDc⟩⟩ rfl rfl hl.1 rfl (lv_room (Nat.le_of_ble_eq_true rfl)) dX10_tellsShirtsOnce_11 ⟨Nat.le_of_ble_eq_true rfl, Nat.le_of_ble_eq_true rfl⟩) (fun r200 u H locs hw hP hS => ?_)
    have k201 := hw
    refine lv_istore (lv' := [(4, .int r200), (3, .int y194), (2, .int y195), (0, .ref w0), (1, .int a1)]) hx hb dX10_tellsShirtsOnce_14 hl (by decide) rfl (fun ls hl => ?_)
    refine lv_aload_n hx hb dX10_tellsShirtsOnce_16 rfl (lv_at hl 3 rfl) ?_
    refine va_get (D := D) (ci := 9) (v := .ref h) (C := RX10) (T := TX10) (N := 12) hx hb hts iG_X10 hown hK hP 0 rfl rfl 3 (by decide) (hts _ w0_20) (fun _ h9 => h9) rfl dX10_tellsShirtsOnce_17 ?_
    refine lv_iload hx hb dX10_tellsShirtsOnce_20 (lv_at hl 0 rfl) ?_
    refine kpurei (wc := [(h, oX0 m1 m2 m3 mc sc tx nr ra ru dy wa se lw), (m1, kcI cI 50 f1), (m2, kcI cI 72 f2), (m3, kcJ cJ 30 f3)]) hP hD hS hA [2, 3, 4, 5] rfl (by decide) (fun hPc hDc hFc => va_runVN (C := RX0) (As := [.int r200]) (rest := []) ⟨hx, hb, hml, hown, hts⟩ (z_Camp_isShirt l D cI cJ cB cC h m1 m2 m3 mc sc tx nr ra ru dy wa se lw f1 f2 f3 r200 H.size) ⟨va_cnB 1 hts gX10_tellsShirtsOnce_X0_isShirt_n157 rfl rfl rfl (nM_61 hN) (hts _ w0_19) hdX0_isShirt ⟨Nat.le_of_ble_eq_true rfl, Nat.le_of_ble_eq_true rfl⟩, hts _ w15_4, hts _ w15_5⟩ ⟨kBlind, va_recv hK hPc (ci := 0) (q0 := 0) rfl rfl, fun U hU hW => ⟨rfl, by rw [hU], hN.warm hW, hE.pass hS hFc hW hU, by rw [hU]; exact hPc, va_K.moved hW.alike hK, hDc⟩⟩ rfl rfl hl.1 rfl (lv_room (Nat.le_of_ble_eq_true rfl)) dX10_tellsShirtsOnce_22 ⟨Nat.le_of_ble_eq_true rfl, Nat.le_of_ble_eq_true rfl⟩) (fun r202 u H locs hw hP hS => ?_)
    obtain ⟨k203, hw⟩ := hw
    rcases hw with rfl | ⟨rfl, kc204_0, kc204_1⟩
    · skip
      refine lv_if_eq (tgt := 37) hx hb dX10_tellsShirtsOnce_25 (by decide) (fun _ => ?_) (fun c206 => absurd (by decide) c206)
      refine lv_iconst (v := 0) hx hb dX10_tellsShirtsOnce_37 (by decide) ?_
      have hP9 := hP.sub (ws' := [(w0, oX10 tp ts wb h ph pd ps cr lr hd pk gs), (tp, kcI cI 400 ft), (h, oX0 m1 m2 m3 mc sc tx nr ra ru dy wa se lw), (m1, kcI cI 50 f1), (m2, kcI cI 72 f2), (m3, kcJ cJ 30 f3)]) [0, 1, 2, 3, 4, 5] rfl
      have hD9 := hD.sub (ws' := [(w0, oX10 tp ts wb h ph pd ps cr lr hd pk gs), (tp, kcI cI 400 ft), (h, oX0 m1 m2 m3 mc sc tx nr ra ru dy wa se lw), (m1, kcI cI 50 f1), (m2, kcI cI 72 f2), (m3, kcJ cJ 30 f3)]) [0, 1, 2, 3, 4, 5] (by decide) rfl
      exact W.zret (v := 0) hx hb hr (by decide) (fun t ht hW => ⟨⟨0, (), rfl, ⟨(hF1.trans (kIter_out (kC_eq rfl (kif_f (xF_le c197) (kLet_eq (k201).symm (kLet_eq (k203).symm (kif_t rfl rfl))))))), (Or.inl ⟨rfl, k199⟩)⟩, by rw [ht]; exact hP9, va_K.moved hW.alike hK, hD9⟩, hS.F ht⟩) hS.2.2 dX10_tellsShirtsOnce_38
    · skip
      refine lv_if_eq (tgt := 37) hx hb dX10_tellsShirtsOnce_25 (by decide) (fun c218 => absurd c218 (by decide)) (fun _ => ?_)
      refine lv_iload_n hx hb dX10_tellsShirtsOnce_28 rfl (lv_at hl 2 rfl) ?_
      refine lv_iload hx hb dX10_tellsShirtsOnce_29 (lv_at hl 0 rfl) ?_
      refine lv_ishr hx hb dX10_tellsShirtsOnce_31 ?_
      refine lv_topi (fun x219 ex219 => ?_)
      refine lv_iconst (v := 1) hx hb dX10_tellsShirtsOnce_32 (by decide) ?_
      refine lv_iand hx hb dX10_tellsShirtsOnce_33 ?_
      refine lv_topi (fun x220 ex220 => ?_)
      have k221 : Rg x220 0 1 := rg_andr ex220 (rg_lit (n := 1) (by decide)) (by decide)
      refine lv_if_eq (tgt := 39) hx hb dX10_tellsShirtsOnce_34 (by decide) (fun c222 => ?_) (fun c222 => ?_)
      · skip
        have k223 : Rg x220 0 0 := rg_q1 (eqI c222) k221 (rg_lit (n := 0) (by decide)) (by decide)
        refine lv_iload_n hx hb dX10_tellsShirtsOnce_39 rfl (lv_at hl 2 rfl) ?_
        refine lv_iconst (v := 1) hx hb dX10_tellsShirtsOnce_40 (by decide) ?_
        refine lv_iload hx hb dX10_tellsShirtsOnce_41 (lv_at hl 0 rfl) ?_
        refine lv_ishl hx hb dX10_tellsShirtsOnce_43 ?_
        refine lv_topi (fun x224 ex224 => ?_)
        refine lv_ior hx hb dX10_tellsShirtsOnce_44 ?_
        refine lv_topi (fun x225 ex225 => ?_)
        refine lv_istore_n (lv' := [(2, .int x225), (4, .int r200), (3, .int y194), (0, .ref w0), (1, .int a1)]) hx hb dX10_tellsShirtsOnce_45 rfl hl (by decide) rfl (fun ls hl => ?_)
        obtain ⟨x226, ex226⟩ : ∃ y : Int32, y = y194 + 1 := ⟨_, rfl⟩
        refine lv_iinc (v := x226) (lv' := [(3, .int x226), (2, .int x225), (4, .int r200), (0, .ref w0), (1, .int a1)]) hx hb dX10_tellsShirtsOnce_46 hl (k := 2) rfl (by rw [ex226]; rfl) (by decide) rfl (fun ls hl => ?_)
        have k227 : Rg x226 1 2147483647 := rg_add ex226 k198 (rg_lit (n := 1) (by decide)) (by decide)
        refine lv_goto (tgt := 4) hx hb dX10_tellsShirtsOnce_49 (by decide) ?_
        exact ih196 (x226, x225) _ _ _ (by show (2147483647 - (x226).toInt).toNat < (2147483647 - (y194).toInt).toNat; exact mu_up ex226 k198 k227 (by decide)) ⟨(hF1.trans (kIter_go (kC_eq rfl (kif_f (xF_le c197) (kLet_eq (k201).symm (kLet_eq (k203).symm (kif_f (by decide) (kLet_eq (ke_shr ex219) (kLet_eq (ke_and ex220) (kif_t (eqI c222) (kLet_eq (ke_shl ex224) (kLet_eq (ke_or ex225) (kLet_eq (ti_add ex226 k198 (rg_lit (n := 1) (by decide)) (by decide) rfl rfl) rfl))))))))))))), (rg_w k227 (by decide)), hP.sub (ws' := [(w0, oX10 tp ts wb h ph pd ps cr lr hd pk gs), (tp, kcI cI 400 ft), (h, oX0 m1 m2 m3 mc sc tx nr ra ru dy wa se lw), (m1, kcI cI 50 f1), (m2, kcI cI 72 f2), (m3, kcJ cJ 30 f3)]) [0, 1, 2, 3, 4, 5] rfl, hD.sub (ws' := [(w0, oX10 tp ts wb h ph pd ps cr lr hd pk gs), (tp, kcI cI 400 ft), (h, oX0 m1 m2 m3 mc sc tx nr ra ru dy wa se lw), (m1, kcI cI 50 f1), (m2, kcI cI 72 f2), (m3, kcJ cJ 30 f3)]) [0, 1, 2, 3, 4, 5] (by decide) rfl, hS, lv_sub (l' := [(3, .int x226), (2, .int x225), (0, .ref w0), (1, .int a1)]) hl [0, 1, 3, 4] rfl⟩
      · skip
        have k228 : Rg x220 1 1 := rg_n1 (neI c222) k221 (rg_lit (n := 0) (by decide)) (by decide)
        refine lv_iconst (v := 0) hx hb dX10_tellsShirtsOnce_37 (by decide) ?_
        have hP9 := hP.sub (ws' := [(w0, oX10 tp ts wb h ph pd ps cr lr hd pk gs), (tp, kcI cI 400 ft), (h, oX0 m1 m2 m3 mc sc tx nr ra ru dy wa se lw), (m1, kcI cI 50 f1), (m2, kcI cI 72 f2), (m3, kcJ cJ 30 f3)]) [0, 1, 2, 3, 4, 5] rfl
        have hD9 := hD.sub (ws' := [(w0, oX10 tp ts wb h ph pd ps cr lr hd pk gs), (tp, kcI cI 400 ft), (h, oX0 m1 m2 m3 mc sc tx nr ra ru dy wa se lw), (m1, kcI cI 50 f1), (m2, kcI cI 72 f2), (m3, kcJ cJ 30 f3)]) [0, 1, 2, 3, 4, 5] (by decide) rfl
        exact W.zret (v := 0) hx hb hr (by decide) (fun t ht hW => ⟨⟨0, (), rfl, ⟨(hF1.trans (kIter_out (kC_eq rfl (kif_f (xF_le c197) (kLet_eq (k201).symm (kLet_eq (k203).symm (kif_f (by decide) (kLet_eq (ke_shr ex219) (kLet_eq (ke_and ex220) (kif_f (neI c222) rfl)))))))))), (Or.inl ⟨rfl, k199⟩)⟩, by rw [ht]; exact hP9, va_K.moved hW.alike hK, hD9⟩, hS.F ht⟩) hS.2.2 dX10_tellsShirtsOnce_38

def kwX10_tellsTheChestAlone : List Cond := .code yX10_tellsTheChestAlone cX10_tellsTheChestAlone 3 (some .boolean) :: kG
theorem hdX10_tellsTheChestAlone : yX10_tellsTheChestAlone.cls ≠ "java/lang/invoke/MethodHandle" ∧ yX10_tellsTheChestAlone.cls ≠ "java/lang/invoke/VarHandle" ∧ (parseMethodDescriptor yX10_tellsTheChestAlone.desc).map (fun d => d.parameters.length) = some 1 := by decide +kernel
theorem gX10_tellsTheChestAlone_X0_isInChest_n192 : GoodIn kG (kwX0_isInChest) := gK w15_9 gGG
theorem gX10_tellsTheChestAlone_X10_shirtAt : GoodIn kG (wsV RX10 356 RX10 yX10_shirtAt kwX10_shirtAt) := gK w36_11 (gK w36_12 (gK w36_13 (gK w0_2 (gK w36_14 gGG))))
theorem dX10_tellsTheChestAlone_0 : decode cX10_tellsTheChestAlone 0 = .ok (.iconst 0, 1) := by decide +kernel
theorem dX10_tellsTheChestAlone_1 : decode cX10_tellsTheChestAlone 1 = .ok (.istore_n 2, 1) := by decide +kernel
theorem dX10_tellsTheChestAlone_2 : decode cX10_tellsTheChestAlone 2 = .ok (.iload_n 2, 1) := by decide +kernel
theorem dX10_tellsTheChestAlone_3 : decode cX10_tellsTheChestAlone 3 = .ok (.iload_n 1, 1) := by decide +kernel
theorem dX10_tellsTheChestAlone_4 : decode cX10_tellsTheChestAlone 4 = .ok (.if_icmp .ge 26, 3) := by decide +kernel
theorem dX10_tellsTheChestAlone_7 : decode cX10_tellsTheChestAlone 7 = .ok (.aload_n 0, 1) := by decide +kernel
theorem dX10_tellsTheChestAlone_8 : decode cX10_tellsTheChestAlone 8 = .ok (.getfield 23, 3) := by decide +kernel
theorem dX10_tellsTheChestAlone_11 : decode cX10_tellsTheChestAlone 11 = .ok (.aload_n 0, 1) := by decide +kernel
theorem dX10_tellsTheChestAlone_12 : decode cX10_tellsTheChestAlone 12 = .ok (.iload_n 2, 1) := by decide +kernel
theorem dX10_tellsTheChestAlone_13 : decode cX10_tellsTheChestAlone 13 = .ok (.invokevirtual 356, 3) := by decide +kernel
theorem dX10_tellsTheChestAlone_16 : decode cX10_tellsTheChestAlone 16 = .ok (.invokevirtual 192, 3) := by decide +kernel
theorem dX10_tellsTheChestAlone_19 : decode cX10_tellsTheChestAlone 19 = .ok (.ifCond .ne 5, 3) := by decide +kernel
theorem dX10_tellsTheChestAlone_22 : decode cX10_tellsTheChestAlone 22 = .ok (.iconst 0, 1) := by decide +kernel
theorem dX10_tellsTheChestAlone_23 : decode cX10_tellsTheChestAlone 23 = .ok (.ireturn, 1) := by decide +kernel
theorem dX10_tellsTheChestAlone_24 : decode cX10_tellsTheChestAlone 24 = .ok (.iinc 2 1, 3) := by decide +kernel
theorem dX10_tellsTheChestAlone_27 : decode cX10_tellsTheChestAlone 27 = .ok (.goto (-25), 3) := by decide +kernel
theorem dX10_tellsTheChestAlone_30 : decode cX10_tellsTheChestAlone 30 = .ok (.iconst 1, 1) := by decide +kernel
theorem dX10_tellsTheChestAlone_31 : decode cX10_tellsTheChestAlone 31 = .ok (.ireturn, 1) := by decide +kernel
set_option maxHeartbeats 4000000 in
set_option maxRecDepth 100000 in
/-- ShirtWash.tellsTheChestAlone -/
theorem z_SW_tellsTheChestAlone (l : Launch) (D : va_G) (cI cJ cB cC : ClassId) (w0 : Nat) (tp : Nat) (ts : Int32) (wb : Int32) (ph : Nat) (pd : Int32) (ps : Nat) (cr : Nat) (lr : Nat) (hd : Nat) (pk : Nat) (gs : Nat) (ft : Nat → Int32) (h : Nat) (m1 : Nat) (m2 : Nat) (m3 : Nat) (mc : Int32) (sc : Int32) (tx : Int32) (nr : Int32) (ra : Int32) (ru : Int32) (dy : Int32) (wa : Int32) (se : Int32) (lw : Option Nat) (f1 : Nat → Int32) (f2 : Nat → Int32) (f3 : Nat → Int64) (a1 : Int32) (sz : Nat)  : Met l yX10_tellsTheChestAlone kwX10_tellsTheChestAlone ({ frames := 3, cells := 0, slots := 0, locals := 63 } : Room) (kPre D (kT cI cJ cB cC) sz [(w0, oX10 tp ts wb h ph pd ps cr lr hd pk gs), (tp, kcI cI 400 ft), (h, oX0 m1 m2 m3 mc sc tx nr ra ru dy wa se lw), (m1, kcI cI 50 f1), (m2, kcI cI 72 f2), (m3, kcJ cJ 30 f3)] [.ref w0, .int a1]) (va_Qi (fun (r : Int32) (_ : Unit) => F_z_SW_tellsTheChestAlone (gT ft) (gT f2) (a1 : Int32).toInt = ((r : Int32).toInt) ∧ ((r = 0 ∧ Rg a1 1 2147483647) ∨ (r = 1))) (fun (_ : Unit) (t : State) => kB D (kT cI cJ cB cC) (va_A [(w0, oX10 tp ts wb h ph pd ps cr lr hd pk gs), (tp, kcI cI 400 ft), (h, oX0 m1 m2 m3 mc sc tx nr ra ru dy wa se lw), (m1, kcI cI 50 f1), (m2, kcI cI 72 f2), (m3, kcJ cJ 30 f3)] sz) [(w0, oX10 tp ts wb h ph pd ps cr lr hd pk gs), (tp, kcI cI 400 ft), (h, oX0 m1 m2 m3 mc sc tx nr ra ru dy wa se lw), (m1, kcI cI 50 f1), (m2, kcI cI 72 f2), (m3, kcJ cJ 30 f3)] t) (va_A [(w0, oX10 tp ts wb h ph pd ps cr lr hd pk gs), (tp, kcI cI 400 ft), (h, oX0 m1 m2 m3 mc sc tx nr ra ru dy wa se lw), (m1, kcI cI 50 f1), (m2, kcI cI 72 f2), (m3, kcJ cJ 30 f3)] sz)) 0 0 (va_A [(w0, oX10 tp ts wb h ph pd ps cr lr hd pk gs), (tp, kcI cI 400 ft), (h, oX0 m1 m2 m3 mc sc tx nr ra ru dy wa se lw), (m1, kcI cI 50 f1), (m2, kcI cI 72 f2), (m3, kcJ cJ 30 f3)] sz) := by
  refine Met.ofW (cc := cX10_tellsTheChestAlone) (maxL := 3) (ret := (some .boolean)) (by decide) rfl ?_
  intro p e s m args below meth c s₁ B hml hv
  obtain ⟨rfl, hsz, hN, hE, hP, hK, hD0⟩ := hv
  have hx := B.exec
  have hb := B.bytes
  have hr := B.returns
  have hts := fun (w : Cond) (h : w ∈ kG) => atoms_spec (ws := kwX10_tellsTheChestAlone) B.pre w (List.mem_cons_of_mem _ h)
  have hown : s.vm.findClass RX10 = some m.cls := findClass_of_methodNamed B.named
  subst hsz
  have hD := hD0.self (sz := s.heap.size)
  generalize hAe : va_A [(w0, oX10 tp ts wb h ph pd ps cr lr hd pk gs), (tp, kcI cI 400 ft), (h, oX0 m1 m2 m3 mc sc tx nr ra ru dy wa se lw), (m1, kcI cI 50 f1), (m2, kcI cI 72 f2), (m3, kcJ cJ 30 f3)] s.heap.size = A at hD hE ⊢
  have hA : ∀ q : Nat, s.heap.size ≤ q → A q := fun q h => by rw [← hAe]; exact Or.inr h
  have hl := lv_entry ([.ref w0, .int a1]) (n := 3) (Nat.le_of_ble_eq_true rfl)
  rw [lg_entry_eq]
  generalize (lg_sl ([.ref w0, .int a1]) ++ List.replicate (3 - (lg_sl ([.ref w0, .int a1])).length) Slot.unset).toArray = ls at hl ⊢
  have hl : lv_has ls 3 [(0, .ref w0), (1, .int a1)] := hl
  obtain ⟨H, hH0⟩ : ∃ H, H = s.heap := ⟨_, rfl⟩
  have hS : va_S A s.heap H [] := by rw [hH0]; exact va_S.rf
  have hP : va_P D vwCl [(w0, oX10 tp ts wb h ph pd ps cr lr hd pk gs), (tp, kcI cI 400 ft), (h, oX0 m1 m2 m3 mc sc tx nr ra ru dy wa se lw), (m1, kcI cI 50 f1), (m2, kcI cI 72 f2), (m3, kcJ cJ 30 f3)] H := by rw [hH0]; exact hP
  refine kHeap hH0 ?_
  clear hH0
  refine lv_iconst (v := 0) hx hb dX10_tellsTheChestAlone_0 (by decide) ?_
  refine lv_istore_n (lv' := [(2, .int 0), (0, .ref w0), (1, .int a1)]) hx hb dX10_tellsTheChestAlone_1 rfl hl (by decide) rfl (fun ls hl => ?_)
  refine k_loop (hd := 2) (fun (y115 : Int32) => (2147483647 - (y115).toInt).toNat) (fun (y115 : Int32) (H : Heap) (locs : List Loc) (ls : Array Slot) => (F_z_SW_tellsTheChestAlone (gT ft) (gT f2) a1.toInt = F_z_SW_tellsTheChestAlone_l1 (gT ft) (gT f2) a1.toInt (y115.toInt)) ∧ Rg y115 0 2147483647 ∧ va_P D vwCl [(w0, oX10 tp ts wb h ph pd ps cr lr hd pk gs), (tp, kcI cI 400 ft), (h, oX0 m1 m2 m3 mc sc tx nr ra ru dy wa se lw), (m1, kcI cI 50 f1), (m2, kcI cI 72 f2), (m3, kcJ cJ 30 f3)] H ∧ va_D A [(w0, oX10 tp ts wb h ph pd ps cr lr hd pk gs), (tp, kcI cI 400 ft), (h, oX0 m1 m2 m3 mc sc tx nr ra ru dy wa se lw), (m1, kcI cI 50 f1), (m2, kcI cI 72 f2), (m3, kcJ cJ 30 f3)] ∧ va_S A s.heap H locs ∧ lv_has ls 3 [(2, .int y115), (0, .ref w0), (1, .int a1)]) ((0 : Int32)) ⟨rfl, (rg_w (rg_lit (n := 0) (by decide)) (by decide)), hP.sub (ws' := [(w0, oX10 tp ts wb h ph pd ps cr lr hd pk gs), (tp, kcI cI 400 ft), (h, oX0 m1 m2 m3 mc sc tx nr ra ru dy wa se lw), (m1, kcI cI 50 f1), (m2, kcI cI 72 f2), (m3, kcJ cJ 30 f3)]) [0, 1, 2, 3, 4, 5] rfl, hD.sub (ws' := [(w0, oX10 tp ts wb h ph pd ps cr lr hd pk gs), (tp, kcI cI 400 ft), (h, oX0 m1 m2 m3 mc sc tx nr ra ru dy wa se lw), (m1, kcI cI 50 f1), (m2, kcI cI 72 f2), (m3, kcJ cJ 30 f3)]) [0, 1, 2, 3, 4, 5] (by decide) rfl, hS, lv_sub (l' := [(2, .int 0), (0, .ref w0), (1, .int a1)]) hl [0, 1, 2] rfl⟩ (fun u H locs ls hI ih116 => ?_)
  clear hP hD hS hl
  obtain ⟨y115, rfl⟩ : ∃ z, z = u := ⟨_, rfl⟩
  obtain ⟨hF1, hy115, hP, hD, hS, hl⟩ := hI
  have hP : va_P D vwCl [(w0, oX10 tp ts wb h ph pd ps cr lr hd pk gs), (tp, kcI cI 400 ft), (h, oX0 m1 m2 m3 mc sc tx nr ra ru dy wa se lw), (m1, kcI cI 50 f1), (m2, kcI cI 72 f2), (m3, kcJ cJ 30 f3)] H := hP
  have hD : va_D A [(w0, oX10 tp ts wb h ph pd ps cr lr hd pk gs), (tp, kcI cI 400 ft), (h, oX0 m1 m2 m3 mc sc tx nr ra ru dy wa se lw), (m1, kcI cI 50 f1), (m2, kcI cI 72 f2), (m3, kcJ cJ 30 f3)] := hD
  have hl : lv_has ls 3 [(2, .int y115), (0, .ref w0), (1, .int a1)] := hl
  refine lv_iload_n hx hb dX10_tellsTheChestAlone_2 rfl (lv_at hl 0 rfl) ?_
  refine lv_iload_n hx hb dX10_tellsTheChestAlone_3 rfl (lv_at hl 2 rfl) ?_
  refine lv_icmp_ge (tgt := 30) hx hb dX10_tellsTheChestAlone_4 (by decide) (fun c117 => ?_) (fun c117 => ?_)
  · skip
    refine lv_iconst (v := 1) hx hb dX10_tellsTheChestAlone_30 (by decide) ?_
    have hP9 := hP.sub (ws' := [(w0, oX10 tp ts wb h ph pd ps cr lr hd pk gs), (tp, kcI cI 400 ft), (h, oX0 m1 m2 m3 mc sc tx nr ra ru dy wa se lw), (m1, kcI cI 50 f1), (m2, kcI cI 72 f2), (m3, kcJ cJ 30 f3)]) [0, 1, 2, 3, 4, 5] rfl
    have hD9 := hD.sub (ws' := [(w0, oX10 tp ts wb h ph pd ps cr lr hd pk gs), (tp, kcI cI 400 ft), (h, oX0 m1 m2 m3 mc sc tx nr ra ru dy wa se lw), (m1, kcI cI 50 f1), (m2, kcI cI 72 f2), (m3, kcJ cJ 30 f3)]) [0, 1, 2, 3, 4, 5] (by decide) rfl
    exact W.zret (v := 1) hx hb hr (by decide) (fun t ht hW => ⟨⟨1, (), rfl, ⟨(hF1.trans (kIter_out (kif_t (leI c117) rfl))), (Or.inr rfl)⟩, by rw [ht]; exact hP9, va_K.moved hW.alike hK, hD9⟩, hS.F ht⟩) hS.2.2 dX10_tellsTheChestAlone_31
  · skip
    have k118 : Rg y115 0 2147483646 := rg_l1 (nleI c117) hy115 (rg_any a1) (by decide)
    have k119 : Rg a1 1 2147483647 := rg_l2 (nleI c117) hy115 (rg_any a1) (by decide)
    refine lv_aload_n hx hb dX10_tellsTheChestAlone_7 rfl (lv_at hl 1 rfl) ?_
    refine va_get (D := D) (ci := 9) (v := .ref h) (C := RX10) (T := TX10) (N := 12) hx hb hts iG_X10 hown hK hP 0 rfl rfl 3 (by decide) (hts _ w0_20) (fun _ h9 => h9) rfl dX10_tellsTheChestAlone_8 ?_
    refine lv_aload_n hx hb dX10_tellsTheChestAlone_11 rfl (lv_at hl 1 rfl) ?_
    refine lv_iload_n hx hb dX10_tellsTheChestAlone_12 rfl (lv_at hl 0 rfl) ?_
    refine kpurei (wc := [(w0, oX10 tp ts wb h ph pd ps cr lr hd pk gs), (tp, kcI cI 400 ft)]) hP hD hS hA [0, 1] rfl (by decide) (fun hPc hDc hFc => va_runV (As := [.int y115]) (rest := [.ref h]) ⟨hx, hb, hml, hown, hts⟩ (z_SW_shirtAt l D cI cJ cB cC w0 tp ts wb ph pd ps cr lr hd pk gs ft h y115 H.size) (cwV 1 hts gX10_tellsTheChestAlone_X10_shirtAt rfl rfl rfl ⟨rfl, hdX10_shirtAt⟩ ⟨Nat.le_of_ble_eq_true rfl, Nat.le_of_ble_eq_true rfl⟩) ⟨kBlind, va_recv hK hPc (ci := 9) (q0 := 0) rfl rfl, fun U hU hW => ⟨rfl, by rw [hU], hN.warm hW, hE.pass hS hFc hW hU, by rw [hU]; exact hPc, va_K.moved hW.alike hK, hDc⟩⟩ rfl rfl hl.1 rfl (lv_room (Nat.le_of_ble_eq_true rfl)) dX10_tellsTheChestAlone_13 ⟨Nat.le_of_ble_eq_true rfl, Nat.le_of_ble_eq_true rfl⟩) (fun r120 u H locs hw hP hS => ?_)
    have k121 := hw
    refine kpurei (wc := [(h, oX0 m1 m2 m3 mc sc tx nr ra ru dy wa se lw), (m1, kcI cI 50 f1), (m2, kcI cI 72 f2), (m3, kcJ cJ 30 f3)]) hP hD hS hA [2, 3, 4, 5] rfl (by decide) (fun hPc hDc hFc => va_runVN (C := RX0) (As := [.int r120]) (rest := []) ⟨hx, hb, hml, hown, hts⟩ (z_Camp_isInChest l D cI cJ cB cC h m1 m2 m3 mc sc tx nr ra ru dy wa se lw f1 f2 f3 r120 H.size) ⟨va_cnB 1 hts gX10_tellsTheChestAlone_X0_isInChest_n192 rfl rfl rfl (nM_68 hN) (hts _ w0_19) hdX0_isInChest ⟨Nat.le_of_ble_eq_true rfl, Nat.le_of_ble_eq_true rfl⟩, hts _ w15_7, hts _ w15_8⟩ ⟨kBlind, va_recv hK hPc (ci := 0) (q0 := 0) rfl rfl, fun U hU hW => ⟨rfl, by rw [hU], hN.warm hW, hE.pass hS hFc hW hU, by rw [hU]; exact hPc, va_K.moved hW.alike hK, hDc⟩⟩ rfl rfl hl.1 rfl (lv_room (Nat.le_of_ble_eq_true rfl)) dX10_tellsTheChestAlone_16 ⟨Nat.le_of_ble_eq_true rfl, Nat.le_of_ble_eq_true rfl⟩) (fun r122 u H locs hw hP hS => ?_)
    obtain ⟨k123, hw⟩ := hw
    rcases hw with rfl | rfl
    · skip
      refine lv_if_ne (tgt := 24) hx hb dX10_tellsTheChestAlone_19 (by decide) (fun c125 => absurd (by decide) c125) (fun _ => ?_)
      refine lv_iconst (v := 0) hx hb dX10_tellsTheChestAlone_22 (by decide) ?_
      have hP9 := hP.sub (ws' := [(w0, oX10 tp ts wb h ph pd ps cr lr hd pk gs), (tp, kcI cI 400 ft), (h, oX0 m1 m2 m3 mc sc tx nr ra ru dy wa se lw), (m1, kcI cI 50 f1), (m2, kcI cI 72 f2), (m3, kcJ cJ 30 f3)]) [0, 1, 2, 3, 4, 5] rfl
      have hD9 := hD.sub (ws' := [(w0, oX10 tp ts wb h ph pd ps cr lr hd pk gs), (tp, kcI cI 400 ft), (h, oX0 m1 m2 m3 mc sc tx nr ra ru dy wa se lw), (m1, kcI cI 50 f1), (m2, kcI cI 72 f2), (m3, kcJ cJ 30 f3)]) [0, 1, 2, 3, 4, 5] (by decide) rfl
      exact W.zret (v := 0) hx hb hr (by decide) (fun t ht hW => ⟨⟨0, (), rfl, ⟨(hF1.trans (kIter_out (kif_f (xF_le c117) (kLet_eq (k121).symm (kLet_eq (k123).symm (kif_t rfl rfl)))))), (Or.inl ⟨rfl, k119⟩)⟩, by rw [ht]; exact hP9, va_K.moved hW.alike hK, hD9⟩, hS.F ht⟩) hS.2.2 dX10_tellsTheChestAlone_23
    · skip
      refine lv_if_ne (tgt := 24) hx hb dX10_tellsTheChestAlone_19 (by decide) (fun _ => ?_) (fun c126 => absurd c126 (by decide))
      obtain ⟨x127, ex127⟩ : ∃ y : Int32, y = y115 + 1 := ⟨_, rfl⟩
      refine lv_iinc (v := x127) (lv' := [(2, .int x127), (0, .ref w0), (1, .int a1)]) hx hb dX10_tellsTheChestAlone_24 hl (k := 0) rfl (by rw [ex127]; rfl) (by decide) rfl (fun ls hl => ?_)
      have k128 : Rg x127 1 2147483647 := rg_add ex127 k118 (rg_lit (n := 1) (by decide)) (by decide)
      refine lv_goto (tgt := 2) hx hb dX10_tellsTheChestAlone_27 (by decide) ?_
      exact ih116 (x127) _ _ _ (by show (2147483647 - (x127).toInt).toNat < (2147483647 - (y115).toInt).toNat; exact mu_up ex127 k118 k128 (by decide)) ⟨(hF1.trans (kIter_go (kif_f (xF_le c117) (kLet_eq (k121).symm (kLet_eq (k123).symm (kif_f (by decide) (kLet_eq (ti_add ex127 k118 (rg_lit (n := 1) (by decide)) (by decide) rfl rfl) rfl))))))), (rg_w k128 (by decide)), hP.sub (ws' := [(w0, oX10 tp ts wb h ph pd ps cr lr hd pk gs), (tp, kcI cI 400 ft), (h, oX0 m1 m2 m3 mc sc tx nr ra ru dy wa se lw), (m1, kcI cI 50 f1), (m2, kcI cI 72 f2), (m3, kcJ cJ 30 f3)]) [0, 1, 2, 3, 4, 5] rfl, hD.sub (ws' := [(w0, oX10 tp ts wb h ph pd ps cr lr hd pk gs), (tp, kcI cI 400 ft), (h, oX0 m1 m2 m3 mc sc tx nr ra ru dy wa se lw), (m1, kcI cI 50 f1), (m2, kcI cI 72 f2), (m3, kcJ cJ 30 f3)]) [0, 1, 2, 3, 4, 5] (by decide) rfl, hS, lv_sub (l' := [(2, .int x127), (0, .ref w0), (1, .int a1)]) hl [0, 1, 2] rfl⟩

def kwX10_tellsMen : List Cond := .code yX10_tellsMen cX10_tellsMen 3 (some .boolean) :: kG
theorem hdX10_tellsMen : yX10_tellsMen.cls ≠ "java/lang/invoke/MethodHandle" ∧ yX10_tellsMen.cls ≠ "java/lang/invoke/VarHandle" ∧ (parseMethodDescriptor yX10_tellsMen.desc).map (fun d => d.parameters.length) = some 1 := by decide +kernel
theorem gX10_tellsMen_X0_isMan_n136 : GoodIn kG (kwX0_isMan) := gK w14_20 gGG
theorem gX10_tellsMen_X10_byteAt : GoodIn kG (wsV RX10 353 RX10 yX10_byteAt kwX10_byteAt) := gK w36_15 (gK w36_16 (gK w36_17 (gK w0_2 (gK w36_18 gGG))))
theorem dX10_tellsMen_0 : decode cX10_tellsMen 0 = .ok (.iload_n 1, 1) := by decide +kernel
theorem dX10_tellsMen_1 : decode cX10_tellsMen 1 = .ok (.aload_n 0, 1) := by decide +kernel
theorem dX10_tellsMen_2 : decode cX10_tellsMen 2 = .ok (.getfield 23, 3) := by decide +kernel
theorem dX10_tellsMen_5 : decode cX10_tellsMen 5 = .ok (.getfield 256, 3) := by decide +kernel
theorem dX10_tellsMen_8 : decode cX10_tellsMen 8 = .ok (.if_icmp .eq 5, 3) := by decide +kernel
theorem dX10_tellsMen_11 : decode cX10_tellsMen 11 = .ok (.iconst 0, 1) := by decide +kernel
theorem dX10_tellsMen_12 : decode cX10_tellsMen 12 = .ok (.ireturn, 1) := by decide +kernel
theorem dX10_tellsMen_13 : decode cX10_tellsMen 13 = .ok (.iconst 0, 1) := by decide +kernel
theorem dX10_tellsMen_14 : decode cX10_tellsMen 14 = .ok (.istore_n 2, 1) := by decide +kernel
theorem dX10_tellsMen_15 : decode cX10_tellsMen 15 = .ok (.iload_n 2, 1) := by decide +kernel
theorem dX10_tellsMen_16 : decode cX10_tellsMen 16 = .ok (.iload_n 1, 1) := by decide +kernel
theorem dX10_tellsMen_17 : decode cX10_tellsMen 17 = .ok (.if_icmp .ge 29, 3) := by decide +kernel
theorem dX10_tellsMen_20 : decode cX10_tellsMen 20 = .ok (.aload_n 0, 1) := by decide +kernel
theorem dX10_tellsMen_21 : decode cX10_tellsMen 21 = .ok (.getfield 23, 3) := by decide +kernel
theorem dX10_tellsMen_24 : decode cX10_tellsMen 24 = .ok (.aload_n 0, 1) := by decide +kernel
theorem dX10_tellsMen_25 : decode cX10_tellsMen 25 = .ok (.iload_n 2, 1) := by decide +kernel
theorem dX10_tellsMen_26 : decode cX10_tellsMen 26 = .ok (.invokevirtual 353, 3) := by decide +kernel
theorem dX10_tellsMen_29 : decode cX10_tellsMen 29 = .ok (.bipush 48, 2) := by decide +kernel
theorem dX10_tellsMen_31 : decode cX10_tellsMen 31 = .ok (.isub, 1) := by decide +kernel
theorem dX10_tellsMen_32 : decode cX10_tellsMen 32 = .ok (.invokevirtual 136, 3) := by decide +kernel
theorem dX10_tellsMen_35 : decode cX10_tellsMen 35 = .ok (.ifCond .ne 5, 3) := by decide +kernel
theorem dX10_tellsMen_38 : decode cX10_tellsMen 38 = .ok (.iconst 0, 1) := by decide +kernel
theorem dX10_tellsMen_39 : decode cX10_tellsMen 39 = .ok (.ireturn, 1) := by decide +kernel
theorem dX10_tellsMen_40 : decode cX10_tellsMen 40 = .ok (.iinc 2 1, 3) := by decide +kernel
theorem dX10_tellsMen_43 : decode cX10_tellsMen 43 = .ok (.goto (-28), 3) := by decide +kernel
theorem dX10_tellsMen_46 : decode cX10_tellsMen 46 = .ok (.iconst 1, 1) := by decide +kernel
theorem dX10_tellsMen_47 : decode cX10_tellsMen 47 = .ok (.ireturn, 1) := by decide +kernel
set_option maxHeartbeats 4000000 in
set_option maxRecDepth 100000 in
/-- ShirtWash.tellsMen -/
theorem z_SW_tellsMen (l : Launch) (D : va_G) (cI cJ cB cC : ClassId) (w0 : Nat) (tp : Nat) (ts : Int32) (wb : Int32) (ph : Nat) (pd : Int32) (ps : Nat) (cr : Nat) (lr : Nat) (hd : Nat) (pk : Nat) (gs : Nat) (ft : Nat → Int32) (h : Nat) (m1 : Nat) (m2 : Nat) (m3 : Nat) (mc : Int32) (sc : Int32) (tx : Int32) (nr : Int32) (ra : Int32) (ru : Int32) (dy : Int32) (wa : Int32) (se : Int32) (lw : Option Nat) (f1 : Nat → Int32) (f2 : Nat → Int32) (f3 : Nat → Int64) (a1 : Int32) (sz : Nat)  : Met l yX10_tellsMen kwX10_tellsMen ({ frames := 2, cells := 0, slots := 0, locals := 42 } : Room) (kPre D (kT cI cJ cB cC) sz [(w0, oX10 tp ts wb h ph pd ps cr lr hd pk gs), (tp, kcI cI 400 ft), (h, oX0 m1 m2 m3 mc sc tx nr ra ru dy wa se lw), (m1, kcI cI 50 f1), (m2, kcI cI 72 f2), (m3, kcJ cJ 30 f3)] [.ref w0, .int a1]) (va_Qi (fun (r : Int32) (_ : Unit) => F_z_SW_tellsMen (gT ft) (mc : Int32).toInt (a1 : Int32).toInt = ((r : Int32).toInt) ∧ ((r = 0) ∨ (r = 1))) (fun (_ : Unit) (t : State) => kB D (kT cI cJ cB cC) (va_A [(w0, oX10 tp ts wb h ph pd ps cr lr hd pk gs), (tp, kcI cI 400 ft), (h, oX0 m1 m2 m3 mc sc tx nr ra ru dy wa se lw), (m1, kcI cI 50 f1), (m2, kcI cI 72 f2), (m3, kcJ cJ 30 f3)] sz) [(w0, oX10 tp ts wb h ph pd ps cr lr hd pk gs), (tp, kcI cI 400 ft), (h, oX0 m1 m2 m3 mc sc tx nr ra ru dy wa se lw), (m1, kcI cI 50 f1), (m2, kcI cI 72 f2), (m3, kcJ cJ 30 f3)] t) (va_A [(w0, oX10 tp ts wb h ph pd ps cr lr hd pk gs), (tp, kcI cI 400 ft), (h, oX0 m1 m2 m3 mc sc tx nr ra ru dy wa se lw), (m1, kcI cI 50 f1), (m2, kcI cI 72 f2), (m3, kcJ cJ 30 f3)] sz)) 0 0 (va_A [(w0, oX10 tp ts wb h ph pd ps cr lr hd pk gs), (tp, kcI cI 400 ft), (h, oX0 m1 m2 m3 mc sc tx nr ra ru dy wa se lw), (m1, kcI cI 50 f1), (m2, kcI cI 72 f2), (m3, kcJ cJ 30 f3)] sz) := by
  refine Met.ofW (cc := cX10_tellsMen) (maxL := 3) (ret := (some .boolean)) (by decide) rfl ?_
  intro p e s m args below meth c s₁ B hml hv
  obtain ⟨rfl, hsz, hN, hE, hP, hK, hD0⟩ := hv
  have hx := B.exec
  have hb := B.bytes
  have hr := B.returns
  have hts := fun (w : Cond) (h : w ∈ kG) => atoms_spec (ws := kwX10_tellsMen) B.pre w (List.mem_cons_of_mem _ h)
  have hown : s.vm.findClass RX10 = some m.cls := findClass_of_methodNamed B.named
  subst hsz
  have hD := hD0.self (sz := s.heap.size)
  generalize hAe : va_A [(w0, oX10 tp ts wb h ph pd ps cr lr hd pk gs), (tp, kcI cI 400 ft), (h, oX0 m1 m2 m3 mc sc tx nr ra ru dy wa se lw), (m1, kcI cI 50 f1), (m2, kcI cI 72 f2), (m3, kcJ cJ 30 f3)] s.heap.size = A at hD hE ⊢
  have hA : ∀ q : Nat, s.heap.size ≤ q → A q := fun q h => by rw [← hAe]; exact Or.inr h
  have hl := lv_entry ([.ref w0, .int a1]) (n := 3) (Nat.le_of_ble_eq_true rfl)
  rw [lg_entry_eq]
  generalize (lg_sl ([.ref w0, .int a1]) ++ List.replicate (3 - (lg_sl ([.ref w0, .int a1])).length) Slot.unset).toArray = ls at hl ⊢
  have hl : lv_has ls 3 [(0, .ref w0), (1, .int a1)] := hl
  obtain ⟨H, hH0⟩ : ∃ H, H = s.heap := ⟨_, rfl⟩
  have hS : va_S A s.heap H [] := by rw [hH0]; exact va_S.rf
  have hP : va_P D vwCl [(w0, oX10 tp ts wb h ph pd ps cr lr hd pk gs), (tp, kcI cI 400 ft), (h, oX0 m1 m2 m3 mc sc tx nr ra ru dy wa se lw), (m1, kcI cI 50 f1), (m2, kcI cI 72 f2), (m3, kcJ cJ 30 f3)] H := by rw [hH0]; exact hP
  refine kHeap hH0 ?_
  clear hH0
  refine lv_iload_n hx hb dX10_tellsMen_0 rfl (lv_at hl 1 rfl) ?_
  refine lv_aload_n hx hb dX10_tellsMen_1 rfl (lv_at hl 0 rfl) ?_
  refine va_get (D := D) (ci := 9) (v := .ref h) (C := RX10) (T := TX10) (N := 12) hx hb hts iG_X10 hown hK hP 0 rfl rfl 3 (by decide) (hts _ w0_20) (fun _ h9 => h9) rfl dX10_tellsMen_2 ?_
  refine va_getN (D := D) (ci := 0) (v := .int mc) (C := RX0) (T := TX0) (N := 13) hx hb hts iG_X0 hown hK hP 2 rfl rfl 3 (by decide) (nF_3 hN) (fun _ h9 => h9) rfl dX10_tellsMen_5 ?_
  refine lv_icmp_eq (tgt := 13) hx hb dX10_tellsMen_8 (by decide) (fun c1 => ?_) (fun c1 => ?_)
  · skip
    refine lv_iconst (v := 0) hx hb dX10_tellsMen_13 (by decide) ?_
    refine lv_istore_n (lv' := [(2, .int 0), (0, .ref w0), (1, .int a1)]) hx hb dX10_tellsMen_14 rfl hl (by decide) rfl (fun ls hl => ?_)
    refine k_loop (hd := 15) (fun (y125 : Int32) => (2147483647 - (y125).toInt).toNat) (fun (y125 : Int32) (H : Heap) (locs : List Loc) (ls : Array Slot) => (F_z_SW_tellsMen (gT ft) mc.toInt a1.toInt = F_z_SW_tellsMen_l1 (gT ft) mc.toInt a1.toInt (y125.toInt)) ∧ Rg y125 0 2147483647 ∧ va_P D vwCl [(w0, oX10 tp ts wb h ph pd ps cr lr hd pk gs), (tp, kcI cI 400 ft), (h, oX0 m1 m2 m3 mc sc tx nr ra ru dy wa se lw), (m1, kcI cI 50 f1), (m2, kcI cI 72 f2), (m3, kcJ cJ 30 f3)] H ∧ va_D A [(w0, oX10 tp ts wb h ph pd ps cr lr hd pk gs), (tp, kcI cI 400 ft), (h, oX0 m1 m2 m3 mc sc tx nr ra ru dy wa se lw), (m1, kcI cI 50 f1), (m2, kcI cI 72 f2), (m3, kcJ cJ 30 f3)] ∧ va_S A s.heap H locs ∧ lv_has ls 3 [(2, .int y125), (0, .ref w0), (1, .int a1)]) ((0 : Int32)) ⟨(kif_t (eqI c1) rfl), (rg_w (rg_lit (n := 0) (by decide)) (by decide)), hP.sub (ws' := [(w0, oX10 tp ts wb h ph pd ps cr lr hd pk gs), (tp, kcI cI 400 ft), (h, oX0 m1 m2 m3 mc sc tx nr ra ru dy wa se lw), (m1, kcI cI 50 f1), (m2, kcI cI 72 f2), (m3, kcJ cJ 30 f3)]) [0, 1, 2, 3, 4, 5] rfl, hD.sub (ws' := [(w0, oX10 tp ts wb h ph pd ps cr lr hd pk gs), (tp, kcI cI 400 ft), (h, oX0 m1 m2 m3 mc sc tx nr ra ru dy wa se lw), (m1, kcI cI 50 f1), (m2, kcI cI 72 f2), (m3, kcJ cJ 30 f3)]) [0, 1, 2, 3, 4, 5] (by decide) rfl, hS, lv_sub (l' := [(2, .int 0), (0, .ref w0), (1, .int a1)]) hl [0, 1, 2] rfl⟩ (fun u H locs ls hI ih126 => ?_)
    clear hP hD hS hl
    obtain ⟨y125, rfl⟩ : ∃ z, z = u := ⟨_, rfl⟩
    obtain ⟨hF1, hy125, hP, hD, hS, hl⟩ := hI
    have hP : va_P D vwCl [(w0, oX10 tp ts wb h ph pd ps cr lr hd pk gs), (tp, kcI cI 400 ft), (h, oX0 m1 m2 m3 mc sc tx nr ra ru dy wa se lw), (m1, kcI cI 50 f1), (m2, kcI cI 72 f2), (m3, kcJ cJ 30 f3)] H := hP
    have hD : va_D A [(w0, oX10 tp ts wb h ph pd ps cr lr hd pk gs), (tp, kcI cI 400 ft), (h, oX0 m1 m2 m3 mc sc tx nr ra ru dy wa se lw), (m1, kcI cI 50 f1), (m2, kcI cI 72 f2), (m3, kcJ cJ 30 f3)] := hD
    have hl : lv_has ls 3 [(2, .int y125), (0, .ref w0), (1, .int a1)] := hl
    refine lv_iload_n hx hb dX10_tellsMen_15 rfl (lv_at hl 0 rfl) ?_
    refine lv_iload_n hx hb dX10_tellsMen_16 rfl (lv_at hl 2 rfl) ?_
    refine lv_icmp_ge (tgt := 46) hx hb dX10_tellsMen_17 (by decide) (fun c127 => ?_) (fun c127 => ?_)
    · skip
      refine lv_iconst (v := 1) hx hb dX10_tellsMen_46 (by decide) ?_
      have hP9 := hP.sub (ws' := [(w0, oX10 tp ts wb h ph pd ps cr lr hd pk gs), (tp, kcI cI 400 ft), (h, oX0 m1 m2 m3 mc sc tx nr ra ru dy wa se lw), (m1, kcI cI 50 f1), (m2, kcI cI 72 f2), (m3, kcJ cJ 30 f3)]) [0, 1, 2, 3, 4, 5] rfl
      have hD9 := hD.sub (ws' := [(w0, oX10 tp ts wb h ph pd ps cr lr hd pk gs), (tp, kcI cI 400 ft), (h, oX0 m1 m2 m3 mc sc tx nr ra ru dy wa se lw), (m1, kcI cI 50 f1), (m2, kcI cI 72 f2), (m3, kcJ cJ 30 f3)]) [0, 1, 2, 3, 4, 5] (by decide) rfl
      exact W.zret (v := 1) hx hb hr (by decide) (fun t ht hW => ⟨⟨1, (), rfl, ⟨(hF1.trans (kIter_out (kif_t (leI c127) rfl))), (Or.inr rfl)⟩, by rw [ht]; exact hP9, va_K.moved hW.alike hK, hD9⟩, hS.F ht⟩) hS.2.2 dX10_tellsMen_47
    · skip
      have k128 : Rg y125 0 2147483646 := rg_l1 (nleI c127) hy125 (rg_any a1) (by decide)
      have k129 : Rg a1 1 2147483647 := rg_l2 (nleI c127) hy125 (rg_any a1) (by decide)
      refine lv_aload_n hx hb dX10_tellsMen_20 rfl (lv_at hl 1 rfl) ?_
      refine va_get (D := D) (ci := 9) (v := .ref h) (C := RX10) (T := TX10) (N := 12) hx hb hts iG_X10 hown hK hP 0 rfl rfl 3 (by decide) (hts _ w0_20) (fun _ h9 => h9) rfl dX10_tellsMen_21 ?_
      refine lv_aload_n hx hb dX10_tellsMen_24 rfl (lv_at hl 1 rfl) ?_
      refine lv_iload_n hx hb dX10_tellsMen_25 rfl (lv_at hl 0 rfl) ?_
      refine kpurei (wc := [(w0, oX10 tp ts wb h ph pd ps cr lr hd pk gs), (tp, kcI cI 400 ft)]) hP hD hS hA [0, 1] rfl (by decide) (fun hPc hDc hFc => va_runV (As := [.int y125]) (rest := [.ref h]) ⟨hx, hb, hml, hown, hts⟩ (z_SW_byteAt l D cI cJ cB cC w0 tp ts wb ph pd ps cr lr hd pk gs ft h y125 H.size) (cwV 1 hts gX10_tellsMen_X10_byteAt rfl rfl rfl ⟨rfl, hdX10_byteAt⟩ ⟨Nat.le_of_ble_eq_true rfl, Nat.le_of_ble_eq_true rfl⟩) ⟨kBlind, va_recv hK hPc (ci := 9) (q0 := 0) rfl rfl, fun U hU hW => ⟨rfl, by rw [hU], hN.warm hW, hE.pass hS hFc hW hU, by rw [hU]; exact hPc, va_K.moved hW.alike hK, hDc⟩⟩ rfl rfl hl.1 rfl (lv_room (Nat.le_of_ble_eq_true rfl)) dX10_tellsMen_26 ⟨Nat.le_of_ble_eq_true rfl, Nat.le_of_ble_eq_true rfl⟩) (fun r130 u H locs hw hP hS => ?_)
      have k131 := hw
      refine lv_bipush (v := 48) hx hb dX10_tellsMen_29 (by decide) ?_
      refine lv_isub hx hb dX10_tellsMen_31 ?_
      refine lv_topi (fun x132 ex132 => ?_)
      refine kpurei (wc := [(h, oX0 m1 m2 m3 mc sc tx nr ra ru dy wa se lw), (m1, kcI cI 50 f1), (m2, kcI cI 72 f2), (m3, kcJ cJ 30 f3)]) hP hD hS hA [2, 3, 4, 5] rfl (by decide) (fun hPc hDc hFc => va_runVN (C := RX0) (As := [.int x132]) (rest := []) ⟨hx, hb, hml, hown, hts⟩ (z_Camp_isMan l D cI cJ cB cC h m1 m2 m3 mc sc tx nr ra ru dy wa se lw f1 f2 f3 x132 H.size) ⟨va_cnB 1 hts gX10_tellsMen_X0_isMan_n136 rfl rfl rfl (nM_58 hN) (hts _ w0_19) hdX0_isMan ⟨Nat.le_of_ble_eq_true rfl, Nat.le_of_ble_eq_true rfl⟩, hts _ w14_18, hts _ w14_19⟩ ⟨kBlind, va_recv hK hPc (ci := 0) (q0 := 0) rfl rfl, fun U hU hW => ⟨rfl, by rw [hU], hN.warm hW, hE.pass hS hFc hW hU, by rw [hU]; exact hPc, va_K.moved hW.alike hK, hDc⟩⟩ rfl rfl hl.1 rfl (lv_room (Nat.le_of_ble_eq_true rfl)) dX10_tellsMen_32 ⟨Nat.le_of_ble_eq_true rfl, Nat.le_of_ble_eq_true rfl⟩) (fun r133 u H locs hw hP hS => ?_)
      obtain ⟨k134, hw⟩ := hw
      rcases hw with rfl | ⟨rfl, kc135_0, kc135_1⟩
      · skip
        refine lv_if_ne (tgt := 40) hx hb dX10_tellsMen_35 (by decide) (fun c136 => absurd (by decide) c136) (fun _ => ?_)
        refine lv_iconst (v := 0) hx hb dX10_tellsMen_38 (by decide) ?_
        have hP9 := hP.sub (ws' := [(w0, oX10 tp ts wb h ph pd ps cr lr hd pk gs), (tp, kcI cI 400 ft), (h, oX0 m1 m2 m3 mc sc tx nr ra ru dy wa se lw), (m1, kcI cI 50 f1), (m2, kcI cI 72 f2), (m3, kcJ cJ 30 f3)]) [0, 1, 2, 3, 4, 5] rfl
        have hD9 := hD.sub (ws' := [(w0, oX10 tp ts wb h ph pd ps cr lr hd pk gs), (tp, kcI cI 400 ft), (h, oX0 m1 m2 m3 mc sc tx nr ra ru dy wa se lw), (m1, kcI cI 50 f1), (m2, kcI cI 72 f2), (m3, kcJ cJ 30 f3)]) [0, 1, 2, 3, 4, 5] (by decide) rfl
        exact W.zret (v := 0) hx hb hr (by decide) (fun t ht hW => ⟨⟨0, (), rfl, ⟨(hF1.trans (kIter_out (kif_f (xF_le c127) (kLet_eq (k131).symm (kLet_eq (ke_wsub ex132) (kLet_eq (k134).symm (kif_t rfl rfl))))))), (Or.inl rfl)⟩, by rw [ht]; exact hP9, va_K.moved hW.alike hK, hD9⟩, hS.F ht⟩) hS.2.2 dX10_tellsMen_39
      · skip
        refine lv_if_ne (tgt := 40) hx hb dX10_tellsMen_35 (by decide) (fun _ => ?_) (fun c137 => absurd c137 (by decide))
        obtain ⟨x138, ex138⟩ : ∃ y : Int32, y = y125 + 1 := ⟨_, rfl⟩
        refine lv_iinc (v := x138) (lv' := [(2, .int x138), (0, .ref w0), (1, .int a1)]) hx hb dX10_tellsMen_40 hl (k := 0) rfl (by rw [ex138]; rfl) (by decide) rfl (fun ls hl => ?_)
        have k139 : Rg x138 1 2147483647 := rg_add ex138 k128 (rg_lit (n := 1) (by decide)) (by decide)
        refine lv_goto (tgt := 15) hx hb dX10_tellsMen_43 (by decide) ?_
        exact ih126 (x138) _ _ _ (by show (2147483647 - (x138).toInt).toNat < (2147483647 - (y125).toInt).toNat; exact mu_up ex138 k128 k139 (by decide)) ⟨(hF1.trans (kIter_go (kif_f (xF_le c127) (kLet_eq (k131).symm (kLet_eq (ke_wsub ex132) (kLet_eq (k134).symm (kif_f (by decide) (kLet_eq (ti_add ex138 k128 (rg_lit (n := 1) (by decide)) (by decide) rfl rfl) rfl)))))))), (rg_w k139 (by decide)), hP.sub (ws' := [(w0, oX10 tp ts wb h ph pd ps cr lr hd pk gs), (tp, kcI cI 400 ft), (h, oX0 m1 m2 m3 mc sc tx nr ra ru dy wa se lw), (m1, kcI cI 50 f1), (m2, kcI cI 72 f2), (m3, kcJ cJ 30 f3)]) [0, 1, 2, 3, 4, 5] rfl, hD.sub (ws' := [(w0, oX10 tp ts wb h ph pd ps cr lr hd pk gs), (tp, kcI cI 400 ft), (h, oX0 m1 m2 m3 mc sc tx nr ra ru dy wa se lw), (m1, kcI cI 50 f1), (m2, kcI cI 72 f2), (m3, kcJ cJ 30 f3)]) [0, 1, 2, 3, 4, 5] (by decide) rfl, hS, lv_sub (l' := [(2, .int x138), (0, .ref w0), (1, .int a1)]) hl [0, 1, 2] rfl⟩
  · skip
    refine lv_iconst (v := 0) hx hb dX10_tellsMen_11 (by decide) ?_
    have hP9 := hP.sub (ws' := [(w0, oX10 tp ts wb h ph pd ps cr lr hd pk gs), (tp, kcI cI 400 ft), (h, oX0 m1 m2 m3 mc sc tx nr ra ru dy wa se lw), (m1, kcI cI 50 f1), (m2, kcI cI 72 f2), (m3, kcJ cJ 30 f3)]) [0, 1, 2, 3, 4, 5] rfl
    have hD9 := hD.sub (ws' := [(w0, oX10 tp ts wb h ph pd ps cr lr hd pk gs), (tp, kcI cI 400 ft), (h, oX0 m1 m2 m3 mc sc tx nr ra ru dy wa se lw), (m1, kcI cI 50 f1), (m2, kcI cI 72 f2), (m3, kcJ cJ 30 f3)]) [0, 1, 2, 3, 4, 5] (by decide) rfl
    exact W.zret (v := 0) hx hb hr (by decide) (fun t ht hW => ⟨⟨0, (), rfl, ⟨(kif_f (neI c1) rfl), (Or.inl rfl)⟩, by rw [ht]; exact hP9, va_K.moved hW.alike hK, hD9⟩, hS.F ht⟩) hS.2.2 dX10_tellsMen_12

def kwX10_tellsBitsOfShirts : List Cond := .code yX10_tellsBitsOfShirts cX10_tellsBitsOfShirts 3 (some .boolean) :: kG
theorem hdX10_tellsBitsOfShirts : yX10_tellsBitsOfShirts.cls ≠ "java/lang/invoke/MethodHandle" ∧ yX10_tellsBitsOfShirts.cls ≠ "java/lang/invoke/VarHandle" ∧ (parseMethodDescriptor yX10_tellsBitsOfShirts.desc).map (fun d => d.parameters.length) = some 1 := by decide +kernel
theorem gX10_tellsBitsOfShirts_X10_pairAt : GoodIn kG (wsV RX10 287 RX10 yX10_pairAt kwX10_pairAt) := gK w48_17 (gK w48_18 (gK w48_19 (gK w0_2 (gK w48_20 gGG))))
theorem dX10_tellsBitsOfShirts_0 : decode cX10_tellsBitsOfShirts 0 = .ok (.iconst 0, 1) := by decide +kernel
theorem dX10_tellsBitsOfShirts_1 : decode cX10_tellsBitsOfShirts 1 = .ok (.istore_n 2, 1) := by decide +kernel
theorem dX10_tellsBitsOfShirts_2 : decode cX10_tellsBitsOfShirts 2 = .ok (.iload_n 2, 1) := by decide +kernel
theorem dX10_tellsBitsOfShirts_3 : decode cX10_tellsBitsOfShirts 3 = .ok (.iconst 1, 1) := by decide +kernel
theorem dX10_tellsBitsOfShirts_4 : decode cX10_tellsBitsOfShirts 4 = .ok (.iadd, 1) := by decide +kernel
theorem dX10_tellsBitsOfShirts_5 : decode cX10_tellsBitsOfShirts 5 = .ok (.iload_n 1, 1) := by decide +kernel
theorem dX10_tellsBitsOfShirts_6 : decode cX10_tellsBitsOfShirts 6 = .ok (.if_icmp .ge 27, 3) := by decide +kernel
theorem dX10_tellsBitsOfShirts_9 : decode cX10_tellsBitsOfShirts 9 = .ok (.aload_n 0, 1) := by decide +kernel
theorem dX10_tellsBitsOfShirts_10 : decode cX10_tellsBitsOfShirts 10 = .ok (.iload_n 2, 1) := by decide +kernel
theorem dX10_tellsBitsOfShirts_11 : decode cX10_tellsBitsOfShirts 11 = .ok (.invokevirtual 287, 3) := by decide +kernel
theorem dX10_tellsBitsOfShirts_14 : decode cX10_tellsBitsOfShirts 14 = .ok (.aload_n 0, 1) := by decide +kernel
theorem dX10_tellsBitsOfShirts_15 : decode cX10_tellsBitsOfShirts 15 = .ok (.getfield 23, 3) := by decide +kernel
theorem dX10_tellsBitsOfShirts_18 : decode cX10_tellsBitsOfShirts 18 = .ok (.getfield 222, 3) := by decide +kernel
theorem dX10_tellsBitsOfShirts_21 : decode cX10_tellsBitsOfShirts 21 = .ok (.ishr, 1) := by decide +kernel
theorem dX10_tellsBitsOfShirts_22 : decode cX10_tellsBitsOfShirts 22 = .ok (.ifCond .eq 5, 3) := by decide +kernel
theorem dX10_tellsBitsOfShirts_25 : decode cX10_tellsBitsOfShirts 25 = .ok (.iconst 0, 1) := by decide +kernel
theorem dX10_tellsBitsOfShirts_26 : decode cX10_tellsBitsOfShirts 26 = .ok (.ireturn, 1) := by decide +kernel
theorem dX10_tellsBitsOfShirts_27 : decode cX10_tellsBitsOfShirts 27 = .ok (.iinc 2 2, 3) := by decide +kernel
theorem dX10_tellsBitsOfShirts_30 : decode cX10_tellsBitsOfShirts 30 = .ok (.goto (-28), 3) := by decide +kernel
theorem dX10_tellsBitsOfShirts_33 : decode cX10_tellsBitsOfShirts 33 = .ok (.iconst 1, 1) := by decide +kernel
theorem dX10_tellsBitsOfShirts_34 : decode cX10_tellsBitsOfShirts 34 = .ok (.ireturn, 1) := by decide +kernel
set_option maxHeartbeats 4000000 in
set_option maxRecDepth 100000 in
/-- ShirtWash.tellsBitsOfShirts -/
theorem z_SW_tellsBitsOfShirts (l : Launch) (D : va_G) (cI cJ cB cC : ClassId) (w0 : Nat) (tp : Nat) (ts : Int32) (wb : Int32) (ph : Nat) (pd : Int32) (ps : Nat) (cr : Nat) (lr : Nat) (hd : Nat) (pk : Nat) (gs : Nat) (ft : Nat → Int32) (h : Nat) (m1 : Nat) (m2 : Nat) (m3 : Nat) (mc : Int32) (sc : Int32) (tx : Int32) (nr : Int32) (ra : Int32) (ru : Int32) (dy : Int32) (wa : Int32) (se : Int32) (lw : Option Nat) (f1 : Nat → Int32) (f2 : Nat → Int32) (f3 : Nat → Int64) (a1 : Int32) (sz : Nat) (H_a1 : Rg a1 0 400) : Met l yX10_tellsBitsOfShirts kwX10_tellsBitsOfShirts ({ frames := 3, cells := 0, slots := 0, locals := 63 } : Room) (kPre D (kT cI cJ cB cC) sz [(w0, oX10 tp ts wb h ph pd ps cr lr hd pk gs), (tp, kcI cI 400 ft), (h, oX0 m1 m2 m3 mc sc tx nr ra ru dy wa se lw), (m1, kcI cI 50 f1), (m2, kcI cI 72 f2), (m3, kcJ cJ 30 f3)] [.ref w0, .int a1]) (va_Qi (fun (r : Int32) (_ : Unit) => F_z_SW_tellsBitsOfShirts (gT ft) (sc : Int32).toInt (a1 : Int32).toInt = ((r : Int32).toInt) ∧ ((r = 0 ∧ Rg a1 2 400) ∨ (r = 1))) (fun (_ : Unit) (t : State) => kB D (kT cI cJ cB cC) (va_A [(w0, oX10 tp ts wb h ph pd ps cr lr hd pk gs), (tp, kcI cI 400 ft), (h, oX0 m1 m2 m3 mc sc tx nr ra ru dy wa se lw), (m1, kcI cI 50 f1), (m2, kcI cI 72 f2), (m3, kcJ cJ 30 f3)] sz) [(w0, oX10 tp ts wb h ph pd ps cr lr hd pk gs), (tp, kcI cI 400 ft), (h, oX0 m1 m2 m3 mc sc tx nr ra ru dy wa se lw), (m1, kcI cI 50 f1), (m2, kcI cI 72 f2), (m3, kcJ cJ 30 f3)] t) (va_A [(w0, oX10 tp ts wb h ph pd ps cr lr hd pk gs), (tp, kcI cI 400 ft), (h, oX0 m1 m2 m3 mc sc tx nr ra ru dy wa se lw), (m1, kcI cI 50 f1), (m2, kcI cI 72 f2), (m3, kcJ cJ 30 f3)] sz)) 0 0 (va_A [(w0, oX10 tp ts wb h ph pd ps cr lr hd pk gs), (tp, kcI cI 400 ft), (h, oX0 m1 m2 m3 mc sc tx nr ra ru dy wa se lw), (m1, kcI cI 50 f1), (m2, kcI cI 72 f2), (m3, kcJ cJ 30 f3)] sz) := by
  refine Met.ofW (cc := cX10_tellsBitsOfShirts) (maxL := 3) (ret := (some .boolean)) (by decide) rfl ?_
  intro p e s m args below meth c s₁ B hml hv
  obtain ⟨rfl, hsz, hN, hE, hP, hK, hD0⟩ := hv
  have hx := B.exec
  have hb := B.bytes
  have hr := B.returns
  have hts := fun (w : Cond) (h : w ∈ kG) => atoms_spec (ws := kwX10_tellsBitsOfShirts) B.pre w (List.mem_cons_of_mem _ h)
  have hown : s.vm.findClass RX10 = some m.cls := findClass_of_methodNamed B.named
  subst hsz
  have hD := hD0.self (sz := s.heap.size)
  generalize hAe : va_A [(w0, oX10 tp ts wb h ph pd ps cr lr hd pk gs), (tp, kcI cI 400 ft), (h, oX0 m1 m2 m3 mc sc tx nr ra ru dy wa se lw), (m1, kcI cI 50 f1), (m2, kcI cI 72 f2), (m3, kcJ cJ 30 f3)] s.heap.size = A at hD hE ⊢
  have hA : ∀ q : Nat, s.heap.size ≤ q → A q := fun q h => by rw [← hAe]; exact Or.inr h
  have hl := lv_entry ([.ref w0, .int a1]) (n := 3) (Nat.le_of_ble_eq_true rfl)
  rw [lg_entry_eq]
  generalize (lg_sl ([.ref w0, .int a1]) ++ List.replicate (3 - (lg_sl ([.ref w0, .int a1])).length) Slot.unset).toArray = ls at hl ⊢
  have hl : lv_has ls 3 [(0, .ref w0), (1, .int a1)] := hl
  obtain ⟨H, hH0⟩ : ∃ H, H = s.heap := ⟨_, rfl⟩
  have hS : va_S A s.heap H [] := by rw [hH0]; exact va_S.rf
  have hP : va_P D vwCl [(w0, oX10 tp ts wb h ph pd ps cr lr hd pk gs), (tp, kcI cI 400 ft), (h, oX0 m1 m2 m3 mc sc tx nr ra ru dy wa se lw), (m1, kcI cI 50 f1), (m2, kcI cI 72 f2), (m3, kcJ cJ 30 f3)] H := by rw [hH0]; exact hP
  refine kHeap hH0 ?_
  clear hH0
  refine lv_iconst (v := 0) hx hb dX10_tellsBitsOfShirts_0 (by decide) ?_
  refine lv_istore_n (lv' := [(2, .int 0), (0, .ref w0), (1, .int a1)]) hx hb dX10_tellsBitsOfShirts_1 rfl hl (by decide) rfl (fun ls hl => ?_)
  refine k_loop (hd := 2) (fun (y217 : Int32) => (400 - (y217).toInt).toNat) (fun (y217 : Int32) (H : Heap) (locs : List Loc) (ls : Array Slot) => (F_z_SW_tellsBitsOfShirts (gT ft) sc.toInt a1.toInt = F_z_SW_tellsBitsOfShirts_l1 (gT ft) sc.toInt a1.toInt (y217.toInt)) ∧ Rg y217 0 400 ∧ va_P D vwCl [(w0, oX10 tp ts wb h ph pd ps cr lr hd pk gs), (tp, kcI cI 400 ft), (h, oX0 m1 m2 m3 mc sc tx nr ra ru dy wa se lw), (m1, kcI cI 50 f1), (m2, kcI cI 72 f2), (m3, kcJ cJ 30 f3)] H ∧ va_D A [(w0, oX10 tp ts wb h ph pd ps cr lr hd pk gs), (tp, kcI cI 400 ft), (h, oX0 m1 m2 m3 mc sc tx nr ra ru dy wa se lw), (m1, kcI cI 50 f1), (m2, kcI cI 72 f2), (m3, kcJ cJ 30 f3)] ∧ va_S A s.heap H locs ∧ lv_has ls 3 [(2, .int y217), (0, .ref w0), (1, .int a1)]) ((0 : Int32)) ⟨rfl, (rg_w (rg_lit (n := 0) (by decide)) (by decide)), hP.sub (ws' := [(w0, oX10 tp ts wb h ph pd ps cr lr hd pk gs), (tp, kcI cI 400 ft), (h, oX0 m1 m2 m3 mc sc tx nr ra ru dy wa se lw), (m1, kcI cI 50 f1), (m2, kcI cI 72 f2), (m3, kcJ cJ 30 f3)]) [0, 1, 2, 3, 4, 5] rfl, hD.sub (ws' := [(w0, oX10 tp ts wb h ph pd ps cr lr hd pk gs), (tp, kcI cI 400 ft), (h, oX0 m1 m2 m3 mc sc tx nr ra ru dy wa se lw), (m1, kcI cI 50 f1), (m2, kcI cI 72 f2), (m3, kcJ cJ 30 f3)]) [0, 1, 2, 3, 4, 5] (by decide) rfl, hS, lv_sub (l' := [(2, .int 0), (0, .ref w0), (1, .int a1)]) hl [0, 1, 2] rfl⟩ (fun u H locs ls hI ih218 => ?_)
  clear hP hD hS hl
  obtain ⟨y217, rfl⟩ : ∃ z, z = u := ⟨_, rfl⟩
  obtain ⟨hF1, hy217, hP, hD, hS, hl⟩ := hI
  have hP : va_P D vwCl [(w0, oX10 tp ts wb h ph pd ps cr lr hd pk gs), (tp, kcI cI 400 ft), (h, oX0 m1 m2 m3 mc sc tx nr ra ru dy wa se lw), (m1, kcI cI 50 f1), (m2, kcI cI 72 f2), (m3, kcJ cJ 30 f3)] H := hP
  have hD : va_D A [(w0, oX10 tp ts wb h ph pd ps cr lr hd pk gs), (tp, kcI cI 400 ft), (h, oX0 m1 m2 m3 mc sc tx nr ra ru dy wa se lw), (m1, kcI cI 50 f1), (m2, kcI cI 72 f2), (m3, kcJ cJ 30 f3)] := hD
  have hl : lv_has ls 3 [(2, .int y217), (0, .ref w0), (1, .int a1)] := hl
  refine lv_iload_n hx hb dX10_tellsBitsOfShirts_2 rfl (lv_at hl 0 rfl) ?_
  refine lv_iconst (v := 1) hx hb dX10_tellsBitsOfShirts_3 (by decide) ?_
  refine lv_iadd hx hb dX10_tellsBitsOfShirts_4 ?_
  refine lv_topi (fun x219 ex219 => ?_)
  have k220 : Rg x219 1 401 := rg_add ex219 hy217 (rg_lit (n := 1) (by decide)) (by decide)
  refine lv_iload_n hx hb dX10_tellsBitsOfShirts_5 rfl (lv_at hl 2 rfl) ?_
  refine lv_icmp_ge (tgt := 33) hx hb dX10_tellsBitsOfShirts_6 (by decide) (fun c221 => ?_) (fun c221 => ?_)
  · skip
    refine lv_iconst (v := 1) hx hb dX10_tellsBitsOfShirts_33 (by decide) ?_
    have hP9 := hP.sub (ws' := [(w0, oX10 tp ts wb h ph pd ps cr lr hd pk gs), (tp, kcI cI 400 ft), (h, oX0 m1 m2 m3 mc sc tx nr ra ru dy wa se lw), (m1, kcI cI 50 f1), (m2, kcI cI 72 f2), (m3, kcJ cJ 30 f3)]) [0, 1, 2, 3, 4, 5] rfl
    have hD9 := hD.sub (ws' := [(w0, oX10 tp ts wb h ph pd ps cr lr hd pk gs), (tp, kcI cI 400 ft), (h, oX0 m1 m2 m3 mc sc tx nr ra ru dy wa se lw), (m1, kcI cI 50 f1), (m2, kcI cI 72 f2), (m3, kcJ cJ 30 f3)]) [0, 1, 2, 3, 4, 5] (by decide) rfl
    exact W.zret (v := 1) hx hb hr (by decide) (fun t ht hW => ⟨⟨1, (), rfl, ⟨(hF1.trans (kIter_out (kLet_eq (ti_add ex219 hy217 (rg_lit (n := 1) (by decide)) (by decide) rfl rfl) (kif_t (leI c221) rfl)))), (Or.inr rfl)⟩, by rw [ht]; exact hP9, va_K.moved hW.alike hK, hD9⟩, hS.F ht⟩) hS.2.2 dX10_tellsBitsOfShirts_34
  · skip
    have k222 : Rg x219 1 399 := rg_l1 (nleI c221) k220 H_a1 (by decide)
    have k223 : Rg y217 0 398 := rg_back ex219 hy217 k222 (by decide)
    have k224 : Rg a1 2 400 := rg_l2 (nleI c221) k220 H_a1 (by decide)
    refine lv_aload_n hx hb dX10_tellsBitsOfShirts_9 rfl (lv_at hl 1 rfl) ?_
    refine lv_iload_n hx hb dX10_tellsBitsOfShirts_10 rfl (lv_at hl 0 rfl) ?_
    refine kpurei (wc := [(w0, oX10 tp ts wb h ph pd ps cr lr hd pk gs), (tp, kcI cI 400 ft)]) hP hD hS hA [0, 1] rfl (by decide) (fun hPc hDc hFc => va_runV (As := [.int y217]) (rest := []) ⟨hx, hb, hml, hown, hts⟩ (z_SW_pairAt l D cI cJ cB cC w0 tp ts wb ph pd ps cr lr hd pk gs ft h y217 H.size) (cwV 1 hts gX10_tellsBitsOfShirts_X10_pairAt rfl rfl rfl ⟨rfl, hdX10_pairAt⟩ ⟨Nat.le_of_ble_eq_true rfl, Nat.le_of_ble_eq_true rfl⟩) ⟨kBlind, va_recv hK hPc (ci := 9) (q0 := 0) rfl rfl, fun U hU hW => ⟨rfl, by rw [hU], hN.warm hW, hE.pass hS hFc hW hU, by rw [hU]; exact hPc, va_K.moved hW.alike hK, hDc⟩⟩ rfl rfl hl.1 rfl (lv_room (Nat.le_of_ble_eq_true rfl)) dX10_tellsBitsOfShirts_11 ⟨Nat.le_of_ble_eq_true rfl, Nat.le_of_ble_eq_true rfl⟩) (fun r225 u H locs hw hP hS => ?_)
    have k226 := hw
    refine lv_aload_n hx hb dX10_tellsBitsOfShirts_14 rfl (lv_at hl 1 rfl) ?_
    refine va_get (D := D) (ci := 9) (v := .ref h) (C := RX10) (T := TX10) (N := 12) hx hb hts iG_X10 hown hK hP 0 rfl rfl 3 (by decide) (hts _ w0_20) (fun _ h9 => h9) rfl dX10_tellsBitsOfShirts_15 ?_
    refine va_getN (D := D) (ci := 0) (v := .int sc) (C := RX0) (T := TX0) (N := 13) hx hb hts iG_X0 hown hK hP 2 rfl rfl 4 (by decide) (nF_7 hN) (fun _ h9 => h9) rfl dX10_tellsBitsOfShirts_18 ?_
    refine lv_ishr hx hb dX10_tellsBitsOfShirts_21 ?_
    refine lv_topi (fun x227 ex227 => ?_)
    refine lv_if_eq (tgt := 27) hx hb dX10_tellsBitsOfShirts_22 (by decide) (fun c228 => ?_) (fun c228 => ?_)
    · skip
      have k229 : Rg x227 0 0 := rg_q1 (eqI c228) (rg_any x227) (rg_lit (n := 0) (by decide)) (by decide)
      obtain ⟨x230, ex230⟩ : ∃ y : Int32, y = y217 + 2 := ⟨_, rfl⟩
      refine lv_iinc (v := x230) (lv' := [(2, .int x230), (0, .ref w0), (1, .int a1)]) hx hb dX10_tellsBitsOfShirts_27 hl (k := 0) rfl (by rw [ex230]; rfl) (by decide) rfl (fun ls hl => ?_)
      have k231 : Rg x230 2 400 := rg_add ex230 k223 (rg_lit (n := 2) (by decide)) (by decide)
      refine lv_goto (tgt := 2) hx hb dX10_tellsBitsOfShirts_30 (by decide) ?_
      exact ih218 (x230) _ _ _ (by show (400 - (x230).toInt).toNat < (400 - (y217).toInt).toNat; exact mu_up ex230 k223 k231 (by decide)) ⟨(hF1.trans (kIter_go (kLet_eq (ti_add ex219 hy217 (rg_lit (n := 1) (by decide)) (by decide) rfl rfl) (kif_f (xF_le c221) (kLet_eq (k226).symm (kLet_eq (ke_shr ex227) (kif_t (eqI c228) (kLet_eq (ti_add ex230 k223 (rg_lit (n := 2) (by decide)) (by decide) rfl rfl) rfl)))))))), (rg_w k231 (by decide)), hP.sub (ws' := [(w0, oX10 tp ts wb h ph pd ps cr lr hd pk gs), (tp, kcI cI 400 ft), (h, oX0 m1 m2 m3 mc sc tx nr ra ru dy wa se lw), (m1, kcI cI 50 f1), (m2, kcI cI 72 f2), (m3, kcJ cJ 30 f3)]) [0, 1, 2, 3, 4, 5] rfl, hD.sub (ws' := [(w0, oX10 tp ts wb h ph pd ps cr lr hd pk gs), (tp, kcI cI 400 ft), (h, oX0 m1 m2 m3 mc sc tx nr ra ru dy wa se lw), (m1, kcI cI 50 f1), (m2, kcI cI 72 f2), (m3, kcJ cJ 30 f3)]) [0, 1, 2, 3, 4, 5] (by decide) rfl, hS, lv_sub (l' := [(2, .int x230), (0, .ref w0), (1, .int a1)]) hl [0, 1, 2] rfl⟩
    · skip
      refine lv_iconst (v := 0) hx hb dX10_tellsBitsOfShirts_25 (by decide) ?_
      have hP9 := hP.sub (ws' := [(w0, oX10 tp ts wb h ph pd ps cr lr hd pk gs), (tp, kcI cI 400 ft), (h, oX0 m1 m2 m3 mc sc tx nr ra ru dy wa se lw), (m1, kcI cI 50 f1), (m2, kcI cI 72 f2), (m3, kcJ cJ 30 f3)]) [0, 1, 2, 3, 4, 5] rfl
      have hD9 := hD.sub (ws' := [(w0, oX10 tp ts wb h ph pd ps cr lr hd pk gs), (tp, kcI cI 400 ft), (h, oX0 m1 m2 m3 mc sc tx nr ra ru dy wa se lw), (m1, kcI cI 50 f1), (m2, kcI cI 72 f2), (m3, kcJ cJ 30 f3)]) [0, 1, 2, 3, 4, 5] (by decide) rfl
      exact W.zret (v := 0) hx hb hr (by decide) (fun t ht hW => ⟨⟨0, (), rfl, ⟨(hF1.trans (kIter_out (kLet_eq (ti_add ex219 hy217 (rg_lit (n := 1) (by decide)) (by decide) rfl rfl) (kif_f (xF_le c221) (kLet_eq (k226).symm (kLet_eq (ke_shr ex227) (kif_f (neI c228) rfl))))))), (Or.inl ⟨rfl, k224⟩)⟩, by rw [ht]; exact hP9, va_K.moved hW.alike hK, hD9⟩, hS.F ht⟩) hS.2.2 dX10_tellsBitsOfShirts_26

def kwX10_isStained : List Cond := .code yX10_isStained cX10_isStained 4 (some .boolean) :: kG
theorem hdX10_isStained : yX10_isStained.cls ≠ "java/lang/invoke/MethodHandle" ∧ yX10_isStained.cls ≠ "java/lang/invoke/VarHandle" ∧ (parseMethodDescriptor yX10_isStained.desc).map (fun d => d.parameters.length) = some 2 := by decide +kernel
theorem gX10_isStained_X0_ofShirt_n165 : GoodIn kG (kwX0_ofShirt) := gK w15_13 gGG
theorem gX10_isStained_X0_takesColourOf_n359 : GoodIn kG (kwX0_takesColourOf) := gK w37_6 gGG
theorem gX10_isStained_X10_shirtAt : GoodIn kG (wsV RX10 356 RX10 yX10_shirtAt kwX10_shirtAt) := gK w36_11 (gK w36_12 (gK w36_13 (gK w0_2 (gK w36_14 gGG))))
theorem dX10_isStained_0 : decode cX10_isStained 0 = .ok (.aload_n 0, 1) := by decide +kernel
theorem dX10_isStained_1 : decode cX10_isStained 1 = .ok (.iload_n 1, 1) := by decide +kernel
theorem dX10_isStained_2 : decode cX10_isStained 2 = .ok (.invokevirtual 356, 3) := by decide +kernel
theorem dX10_isStained_5 : decode cX10_isStained 5 = .ok (.istore_n 3, 1) := by decide +kernel
theorem dX10_isStained_6 : decode cX10_isStained 6 = .ok (.aload_n 0, 1) := by decide +kernel
theorem dX10_isStained_7 : decode cX10_isStained 7 = .ok (.getfield 23, 3) := by decide +kernel
theorem dX10_isStained_10 : decode cX10_isStained 10 = .ok (.iload_n 3, 1) := by decide +kernel
theorem dX10_isStained_11 : decode cX10_isStained 11 = .ok (.iconst 0, 1) := by decide +kernel
theorem dX10_isStained_12 : decode cX10_isStained 12 = .ok (.invokevirtual 165, 3) := by decide +kernel
theorem dX10_isStained_15 : decode cX10_isStained 15 = .ok (.ifCond .eq 5, 3) := by decide +kernel
theorem dX10_isStained_18 : decode cX10_isStained 18 = .ok (.iconst 0, 1) := by decide +kernel
theorem dX10_isStained_19 : decode cX10_isStained 19 = .ok (.ireturn, 1) := by decide +kernel
theorem dX10_isStained_20 : decode cX10_isStained 20 = .ok (.iload_n 1, 1) := by decide +kernel
theorem dX10_isStained_21 : decode cX10_isStained 21 = .ok (.ifCond .le 21, 3) := by decide +kernel
theorem dX10_isStained_24 : decode cX10_isStained 24 = .ok (.aload_n 0, 1) := by decide +kernel
theorem dX10_isStained_25 : decode cX10_isStained 25 = .ok (.getfield 23, 3) := by decide +kernel
theorem dX10_isStained_28 : decode cX10_isStained 28 = .ok (.iload_n 3, 1) := by decide +kernel
theorem dX10_isStained_29 : decode cX10_isStained 29 = .ok (.aload_n 0, 1) := by decide +kernel
theorem dX10_isStained_30 : decode cX10_isStained 30 = .ok (.iload_n 1, 1) := by decide +kernel
theorem dX10_isStained_31 : decode cX10_isStained 31 = .ok (.iconst 1, 1) := by decide +kernel
theorem dX10_isStained_32 : decode cX10_isStained 32 = .ok (.isub, 1) := by decide +kernel
theorem dX10_isStained_33 : decode cX10_isStained 33 = .ok (.invokevirtual 356, 3) := by decide +kernel
theorem dX10_isStained_36 : decode cX10_isStained 36 = .ok (.invokevirtual 359, 3) := by decide +kernel
theorem dX10_isStained_39 : decode cX10_isStained 39 = .ok (.ifCond .ne 28, 3) := by decide +kernel
theorem dX10_isStained_42 : decode cX10_isStained 42 = .ok (.iload_n 1, 1) := by decide +kernel
theorem dX10_isStained_43 : decode cX10_isStained 43 = .ok (.iconst 1, 1) := by decide +kernel
theorem dX10_isStained_44 : decode cX10_isStained 44 = .ok (.iadd, 1) := by decide +kernel
theorem dX10_isStained_45 : decode cX10_isStained 45 = .ok (.iload_n 2, 1) := by decide +kernel
theorem dX10_isStained_46 : decode cX10_isStained 46 = .ok (.if_icmp .ge 25, 3) := by decide +kernel
theorem dX10_isStained_49 : decode cX10_isStained 49 = .ok (.aload_n 0, 1) := by decide +kernel
theorem dX10_isStained_50 : decode cX10_isStained 50 = .ok (.getfield 23, 3) := by decide +kernel
theorem dX10_isStained_53 : decode cX10_isStained 53 = .ok (.iload_n 3, 1) := by decide +kernel
theorem dX10_isStained_54 : decode cX10_isStained 54 = .ok (.aload_n 0, 1) := by decide +kernel
theorem dX10_isStained_55 : decode cX10_isStained 55 = .ok (.iload_n 1, 1) := by decide +kernel
theorem dX10_isStained_56 : decode cX10_isStained 56 = .ok (.iconst 1, 1) := by decide +kernel
theorem dX10_isStained_57 : decode cX10_isStained 57 = .ok (.iadd, 1) := by decide +kernel
theorem dX10_isStained_58 : decode cX10_isStained 58 = .ok (.invokevirtual 356, 3) := by decide +kernel
theorem dX10_isStained_61 : decode cX10_isStained 61 = .ok (.invokevirtual 359, 3) := by decide +kernel
theorem dX10_isStained_64 : decode cX10_isStained 64 = .ok (.ifCond .eq 7, 3) := by decide +kernel
theorem dX10_isStained_67 : decode cX10_isStained 67 = .ok (.iconst 1, 1) := by decide +kernel
theorem dX10_isStained_68 : decode cX10_isStained 68 = .ok (.goto 4, 3) := by decide +kernel
theorem dX10_isStained_71 : decode cX10_isStained 71 = .ok (.iconst 0, 1) := by decide +kernel
theorem dX10_isStained_72 : decode cX10_isStained 72 = .ok (.ireturn, 1) := by decide +kernel
set_option maxHeartbeats 4000000 in
set_option maxRecDepth 100000 in
/-- ShirtWash.isStained -/
theorem z_SW_isStained (l : Launch) (D : va_G) (cI cJ cB cC : ClassId) (w0 : Nat) (tp : Nat) (ts : Int32) (wb : Int32) (ph : Nat) (pd : Int32) (ps : Nat) (cr : Nat) (lr : Nat) (hd : Nat) (pk : Nat) (gs : Nat) (ft : Nat → Int32) (h : Nat) (m1 : Nat) (m2 : Nat) (m3 : Nat) (mc : Int32) (sc : Int32) (tx : Int32) (nr : Int32) (ra : Int32) (ru : Int32) (dy : Int32) (wa : Int32) (se : Int32) (lw : Option Nat) (f1 : Nat → Int32) (f2 : Nat → Int32) (f3 : Nat → Int64) (a1 : Int32) (b1 : Int32) (sz : Nat) (H_a1 : Rg a1 0 400) : Met l yX10_isStained kwX10_isStained ({ frames := 3, cells := 0, slots := 0, locals := 68 } : Room) (kPre D (kT cI cJ cB cC) sz [(w0, oX10 tp ts wb h ph pd ps cr lr hd pk gs), (tp, kcI cI 400 ft), (h, oX0 m1 m2 m3 mc sc tx nr ra ru dy wa se lw), (m1, kcI cI 50 f1), (m2, kcI cI 72 f2), (m3, kcJ cJ 30 f3)] [.ref w0, .int a1, .int b1]) (va_Qi (fun (r : Int32) (uu : Int32 × (Nat → Int32)) => match uu with | (n0_, f1_) => F_z_SW_isStained (gT ft) (ru : Int32).toInt (se : Int32).toInt (gT f2) (a1 : Int32).toInt (b1 : Int32).toInt = ((r : Int32).toInt, (n0_ : Int32).toInt, (gT f1_)) ∧ ((r = 0) ∨ (r = 1))) (fun (uu : Int32 × (Nat → Int32)) (t : State) => match uu with | (n0_, f1_) => kB D (kT cI cJ cB cC) (va_A [(w0, oX10 tp ts wb h ph pd ps cr lr hd pk gs), (tp, kcI cI 400 ft), (h, oX0 m1 m2 m3 mc sc tx nr ra ru dy wa se lw), (m1, kcI cI 50 f1), (m2, kcI cI 72 f2), (m3, kcJ cJ 30 f3)] sz) [(w0, oX10 tp ts wb h ph pd ps cr lr hd pk gs), (tp, kcI cI 400 ft), (h, oX0 m1 m2 m3 mc sc tx nr ra ru dy wa n0_ lw), (m1, kcI cI 50 f1), (m2, kcI cI 72 f1_), (m3, kcJ cJ 30 f3)] t) (va_A [(w0, oX10 tp ts wb h ph pd ps cr lr hd pk gs), (tp, kcI cI 400 ft), (h, oX0 m1 m2 m3 mc sc tx nr ra ru dy wa se lw), (m1, kcI cI 50 f1), (m2, kcI cI 72 f2), (m3, kcJ cJ 30 f3)] sz)) 0 0 (va_A [(w0, oX10 tp ts wb h ph pd ps cr lr hd pk gs), (tp, kcI cI 400 ft), (h, oX0 m1 m2 m3 mc sc tx nr ra ru dy wa se lw), (m1, kcI cI 50 f1), (m2, kcI cI 72 f2), (m3, kcJ cJ 30 f3)] sz) := by
  refine Met.ofW (cc := cX10_isStained) (maxL := 4) (ret := (some .boolean)) (by decide) rfl ?_
  intro p e s m args below meth c s₁ B hml hv
  obtain ⟨rfl, hsz, hN, hE, hP, hK, hD0⟩ := hv
  have hx := B.exec
  have hb := B.bytes
  have hr := B.returns
  have hts := fun (w : Cond) (h : w ∈ kG) => atoms_spec (ws := kwX10_isStained) B.pre w (List.mem_cons_of_mem _ h)
  have hown : s.vm.findClass RX10 = some m.cls := findClass_of_methodNamed B.named
  subst hsz
  have hD := hD0.self (sz := s.heap.size)
  generalize hAe : va_A [(w0, oX10 tp ts wb h ph pd ps cr lr hd pk gs), (tp, kcI cI 400 ft), (h, oX0 m1 m2 m3 mc sc tx nr ra ru dy wa se lw), (m1, kcI cI 50 f1), (m2, kcI cI 72 f2), (m3, kcJ cJ 30 f3)] s.heap.size = A at hD hE ⊢
  have hA : ∀ q : Nat, s.heap.size ≤ q → A q := fun q h => by rw [← hAe]; exact Or.inr h
  have hl := lv_entry ([.ref w0, .int a1, .int b1]) (n := 4) (Nat.le_of_ble_eq_true rfl)
  rw [lg_entry_eq]
  generalize (lg_sl ([.ref w0, .int a1, .int b1]) ++ List.replicate (4 - (lg_sl ([.ref w0, .int a1, .int b1])).length) Slot.unset).toArray = ls at hl ⊢
  have hl : lv_has ls 4 [(0, .ref w0), (1, .int a1), (2, .int b1)] := hl
  obtain ⟨H, hH0⟩ : ∃ H, H = s.heap := ⟨_, rfl⟩
  have hS : va_S A s.heap H [] := by rw [hH0]; exact va_S.rf
  have hP : va_P D vwCl [(w0, oX10 tp ts wb h ph pd ps cr lr hd pk gs), (tp, kcI cI 400 ft), (h, oX0 m1 m2 m3 mc sc tx nr ra ru dy wa se lw), (m1, kcI cI 50 f1), (m2, kcI cI 72 f2), (m3, kcJ cJ 30 f3)] H := by rw [hH0]; exact hP
  refine kHeap hH0 ?_
  clear hH0
  refine lv_aload_n hx hb dX10_isStained_0 rfl (lv_at hl 0 rfl) ?_
  refine lv_iload_n hx hb dX10_isStained_1 rfl (lv_at hl 1 rfl) ?_
  refine kpurei (wc := [(w0, oX10 tp ts wb h ph pd ps cr lr hd pk gs), (tp, kcI cI 400 ft)]) hP hD hS hA [0, 1] rfl (by decide) (fun hPc hDc hFc => va_runV (As := [.int a1]) (rest := []) ⟨hx, hb, hml, hown, hts⟩ (z_SW_shirtAt l D cI cJ cB cC w0 tp ts wb ph pd ps cr lr hd pk gs ft h a1 H.size) (cwV 1 hts gX10_isStained_X10_shirtAt rfl rfl rfl ⟨rfl, hdX10_shirtAt⟩ ⟨Nat.le_of_ble_eq_true rfl, Nat.le_of_ble_eq_true rfl⟩) ⟨kBlind, va_recv hK hPc (ci := 9) (q0 := 0) rfl rfl, fun U hU hW => ⟨rfl, by rw [hU], hN.warm hW, hE.pass hS hFc hW hU, by rw [hU]; exact hPc, va_K.moved hW.alike hK, hDc⟩⟩ rfl rfl hl.1 rfl (lv_room (Nat.le_of_ble_eq_true rfl)) dX10_isStained_2 ⟨Nat.le_of_ble_eq_true rfl, Nat.le_of_ble_eq_true rfl⟩) (fun r1 u H locs hw hP hS => ?_)
  have k2 := hw
  refine lv_istore_n (lv' := [(3, .int r1), (0, .ref w0), (1, .int a1), (2, .int b1)]) hx hb dX10_isStained_5 rfl hl (by decide) rfl (fun ls hl => ?_)
  refine lv_aload_n hx hb dX10_isStained_6 rfl (lv_at hl 1 rfl) ?_
  refine va_get (D := D) (ci := 9) (v := .ref h) (C := RX10) (T := TX10) (N := 12) hx hb hts iG_X10 hown hK hP 0 rfl rfl 3 (by decide) (hts _ w0_20) (fun _ h9 => h9) rfl dX10_isStained_7 ?_
  refine lv_iload_n hx hb dX10_isStained_10 rfl (lv_at hl 0 rfl) ?_
  refine lv_iconst (v := 0) hx hb dX10_isStained_11 (by decide) ?_
  refine kpurei (wc := [(h, oX0 m1 m2 m3 mc sc tx nr ra ru dy wa se lw), (m1, kcI cI 50 f1), (m2, kcI cI 72 f2), (m3, kcJ cJ 30 f3)]) hP hD hS hA [2, 3, 4, 5] rfl (by decide) (fun hPc hDc hFc => va_runVN (C := RX0) (As := [.int r1, .int 0]) (rest := []) ⟨hx, hb, hml, hown, hts⟩ (z_Camp_ofShirt l D cI cJ cB cC h m1 m2 m3 mc sc tx nr ra ru dy wa se lw f1 f2 f3 r1 0 H.size) ⟨va_cnB 2 hts gX10_isStained_X0_ofShirt_n165 rfl rfl rfl (nM_63 hN) (hts _ w0_19) hdX0_ofShirt ⟨Nat.le_of_ble_eq_true rfl, Nat.le_of_ble_eq_true rfl⟩, hts _ w15_11, hts _ w15_12⟩ ⟨kBlind, va_recv hK hPc (ci := 0) (q0 := 0) rfl rfl, fun U hU hW => ⟨rfl, by rw [hU], hN.warm hW, hE.pass hS hFc hW hU, by rw [hU]; exact hPc, va_K.moved hW.alike hK, hDc⟩⟩ rfl rfl hl.1 rfl (lv_room (Nat.le_of_ble_eq_true rfl)) dX10_isStained_12 ⟨Nat.le_of_ble_eq_true rfl, Nat.le_of_ble_eq_true rfl⟩) (fun r3 u H locs hw hP hS => ?_)
  have k4 := hw
  refine lv_if_eq (tgt := 20) hx hb dX10_isStained_15 (by decide) (fun c5 => ?_) (fun c5 => ?_)
  · skip
    have k6 : Rg r3 0 0 := rg_q1 (eqI c5) (rg_any r3) (rg_lit (n := 0) (by decide)) (by decide)
    refine lv_iload_n hx hb dX10_isStained_20 rfl (lv_at hl 2 rfl) ?_
    refine k_join (hd := 67) (cells2 := 0) (slots2 := 0) (fun (u : Int32 × (Nat → Int32)) => match u with | (y43, g44) => []) (fun (u : Int32 × (Nat → Int32)) (H : Heap) (locs : List Loc) (ls : Array Slot) => match u with | (y43, g44) => (F_z_SW_isStained (gT ft) ru.toInt se.toInt (gT f2) a1.toInt b1.toInt = F_z_SW_isStained_j1 y43.toInt (gT g44)) ∧ va_P D vwCl [(w0, oX10 tp ts wb h ph pd ps cr lr hd pk gs), (tp, kcI cI 400 ft), (h, oX0 m1 m2 m3 mc sc tx nr ra ru dy wa y43 lw), (m1, kcI cI 50 f1), (m2, kcI cI 72 g44), (m3, kcJ cJ 30 f3)] H ∧ va_D A [(w0, oX10 tp ts wb h ph pd ps cr lr hd pk gs), (tp, kcI cI 400 ft), (h, oX0 m1 m2 m3 mc sc tx nr ra ru dy wa y43 lw), (m1, kcI cI 50 f1), (m2, kcI cI 72 g44), (m3, kcJ cJ 30 f3)] ∧ va_S A s.heap H locs ∧ lv_has ls 4 [(3, .int r1), (0, .ref w0), (1, .int a1), (2, .int b1)]) (fun u H locs ls hI => ?_) (fun hJ67 => ?_)
    · skip
      clear hP hD hS hl
      obtain ⟨y43, g44⟩ := u
      obtain ⟨hF1, hP, hD, hS, hl⟩ := hI
      have hP : va_P D vwCl [(w0, oX10 tp ts wb h ph pd ps cr lr hd pk gs), (tp, kcI cI 400 ft), (h, oX0 m1 m2 m3 mc sc tx nr ra ru dy wa y43 lw), (m1, kcI cI 50 f1), (m2, kcI cI 72 g44), (m3, kcJ cJ 30 f3)] H := hP
      have hD : va_D A [(w0, oX10 tp ts wb h ph pd ps cr lr hd pk gs), (tp, kcI cI 400 ft), (h, oX0 m1 m2 m3 mc sc tx nr ra ru dy wa y43 lw), (m1, kcI cI 50 f1), (m2, kcI cI 72 g44), (m3, kcJ cJ 30 f3)] := hD
      have hl : lv_has ls 4 [(3, .int r1), (0, .ref w0), (1, .int a1), (2, .int b1)] := hl
      refine lv_iconst (v := 1) hx hb dX10_isStained_67 (by decide) ?_
      refine lv_goto (tgt := 72) hx hb dX10_isStained_68 (by decide) ?_
      have hP9 := hP.sub (ws' := [(w0, oX10 tp ts wb h ph pd ps cr lr hd pk gs), (tp, kcI cI 400 ft), (h, oX0 m1 m2 m3 mc sc tx nr ra ru dy wa y43 lw), (m1, kcI cI 50 f1), (m2, kcI cI 72 g44), (m3, kcJ cJ 30 f3)]) [0, 1, 2, 3, 4, 5] rfl
      have hD9 := hD.sub (ws' := [(w0, oX10 tp ts wb h ph pd ps cr lr hd pk gs), (tp, kcI cI 400 ft), (h, oX0 m1 m2 m3 mc sc tx nr ra ru dy wa y43 lw), (m1, kcI cI 50 f1), (m2, kcI cI 72 g44), (m3, kcJ cJ 30 f3)]) [0, 1, 2, 3, 4, 5] (by decide) rfl
      exact W.zret (v := 1) hx hb hr (by decide) (fun t ht hW => ⟨⟨1, (y43, g44), rfl, ⟨(hF1.trans rfl), (Or.inr rfl)⟩, by rw [ht]; exact hP9, va_K.moved hW.alike hK, hD9⟩, hS.F ht⟩) hS.2.2 dX10_isStained_72
    refine k_join (hd := 42) (cells2 := 0) (slots2 := 0) (fun (u : Int32 × (Nat → Int32)) => match u with | (y45, g46) => []) (fun (u : Int32 × (Nat → Int32)) (H : Heap) (locs : List Loc) (ls : Array Slot) => match u with | (y45, g46) => (F_z_SW_isStained (gT ft) ru.toInt se.toInt (gT f2) a1.toInt b1.toInt = F_z_SW_isStained_j2 (gT ft) ru.toInt a1.toInt b1.toInt r1.toInt y45.toInt (gT g46)) ∧ va_P D vwCl [(w0, oX10 tp ts wb h ph pd ps cr lr hd pk gs), (tp, kcI cI 400 ft), (h, oX0 m1 m2 m3 mc sc tx nr ra ru dy wa y45 lw), (m1, kcI cI 50 f1), (m2, kcI cI 72 g46), (m3, kcJ cJ 30 f3)] H ∧ va_D A [(w0, oX10 tp ts wb h ph pd ps cr lr hd pk gs), (tp, kcI cI 400 ft), (h, oX0 m1 m2 m3 mc sc tx nr ra ru dy wa y45 lw), (m1, kcI cI 50 f1), (m2, kcI cI 72 g46), (m3, kcJ cJ 30 f3)] ∧ va_S A s.heap H locs ∧ lv_has ls 4 [(3, .int r1), (0, .ref w0), (1, .int a1), (2, .int b1)]) (fun u H locs ls hI => ?_) (fun hJ42 => ?_)
    · skip
      clear hP hD hS hl
      obtain ⟨y45, g46⟩ := u
      obtain ⟨hF2, hP, hD, hS, hl⟩ := hI
      have hP : va_P D vwCl [(w0, oX10 tp ts wb h ph pd ps cr lr hd pk gs), (tp, kcI cI 400 ft), (h, oX0 m1 m2 m3 mc sc tx nr ra ru dy wa y45 lw), (m1, kcI cI 50 f1), (m2, kcI cI 72 g46), (m3, kcJ cJ 30 f3)] H := hP
      have hD : va_D A [(w0, oX10 tp ts wb h ph pd ps cr lr hd pk gs), (tp, kcI cI 400 ft), (h, oX0 m1 m2 m3 mc sc tx nr ra ru dy wa y45 lw), (m1, kcI cI 50 f1), (m2, kcI cI 72 g46), (m3, kcJ cJ 30 f3)] := hD
      have hl : lv_has ls 4 [(3, .int r1), (0, .ref w0), (1, .int a1), (2, .int b1)] := hl
      refine lv_iload_n hx hb dX10_isStained_42 rfl (lv_at hl 2 rfl) ?_
      refine lv_iconst (v := 1) hx hb dX10_isStained_43 (by decide) ?_
      refine lv_iadd hx hb dX10_isStained_44 ?_
      refine lv_topi (fun x47 ex47 => ?_)
      have k48 : Rg x47 1 401 := rg_add ex47 H_a1 (rg_lit (n := 1) (by decide)) (by decide)
      refine lv_iload_n hx hb dX10_isStained_45 rfl (lv_at hl 3 rfl) ?_
      refine k_join (hd := 71) (cells2 := 0) (slots2 := 0) (fun (u : Int32 × (Nat → Int32)) => match u with | (y65, g66) => []) (fun (u : Int32 × (Nat → Int32)) (H : Heap) (locs : List Loc) (ls : Array Slot) => match u with | (y65, g66) => (F_z_SW_isStained (gT ft) ru.toInt se.toInt (gT f2) a1.toInt b1.toInt = F_z_SW_isStained_j3 y65.toInt (gT g66)) ∧ va_P D vwCl [(w0, oX10 tp ts wb h ph pd ps cr lr hd pk gs), (tp, kcI cI 400 ft), (h, oX0 m1 m2 m3 mc sc tx nr ra ru dy wa y65 lw), (m1, kcI cI 50 f1), (m2, kcI cI 72 g66), (m3, kcJ cJ 30 f3)] H ∧ va_D A [(w0, oX10 tp ts wb h ph pd ps cr lr hd pk gs), (tp, kcI cI 400 ft), (h, oX0 m1 m2 m3 mc sc tx nr ra ru dy wa y65 lw), (m1, kcI cI 50 f1), (m2, kcI cI 72 g66), (m3, kcJ cJ 30 f3)] ∧ va_S A s.heap H locs ∧ lv_has ls 4 [(3, .int r1), (0, .ref w0), (1, .int a1), (2, .int b1)]) (fun u H locs ls hI => ?_) (fun hJ71 => ?_)
      · skip
        clear hP hD hS hl
        obtain ⟨y65, g66⟩ := u
        obtain ⟨hF3, hP, hD, hS, hl⟩ := hI
        have hP : va_P D vwCl [(w0, oX10 tp ts wb h ph pd ps cr lr hd pk gs), (tp, kcI cI 400 ft), (h, oX0 m1 m2 m3 mc sc tx nr ra ru dy wa y65 lw), (m1, kcI cI 50 f1), (m2, kcI cI 72 g66), (m3, kcJ cJ 30 f3)] H := hP
        have hD : va_D A [(w0, oX10 tp ts wb h ph pd ps cr lr hd pk gs), (tp, kcI cI 400 ft), (h, oX0 m1 m2 m3 mc sc tx nr ra ru dy wa y65 lw), (m1, kcI cI 50 f1), (m2, kcI cI 72 g66), (m3, kcJ cJ 30 f3)] := hD
        have hl : lv_has ls 4 [(3, .int r1), (0, .ref w0), (1, .int a1), (2, .int b1)] := hl
        refine lv_iconst (v := 0) hx hb dX10_isStained_71 (by decide) ?_
        have hP9 := hP.sub (ws' := [(w0, oX10 tp ts wb h ph pd ps cr lr hd pk gs), (tp, kcI cI 400 ft), (h, oX0 m1 m2 m3 mc sc tx nr ra ru dy wa y65 lw), (m1, kcI cI 50 f1), (m2, kcI cI 72 g66), (m3, kcJ cJ 30 f3)]) [0, 1, 2, 3, 4, 5] rfl
        have hD9 := hD.sub (ws' := [(w0, oX10 tp ts wb h ph pd ps cr lr hd pk gs), (tp, kcI cI 400 ft), (h, oX0 m1 m2 m3 mc sc tx nr ra ru dy wa y65 lw), (m1, kcI cI 50 f1), (m2, kcI cI 72 g66), (m3, kcJ cJ 30 f3)]) [0, 1, 2, 3, 4, 5] (by decide) rfl
        exact W.zret (v := 0) hx hb hr (by decide) (fun t ht hW => ⟨⟨0, (y65, g66), rfl, ⟨(hF3.trans rfl), (Or.inl rfl)⟩, by rw [ht]; exact hP9, va_K.moved hW.alike hK, hD9⟩, hS.F ht⟩) hS.2.2 dX10_isStained_72
      refine lv_icmp_ge (tgt := 71) hx hb dX10_isStained_46 (by decide) (fun c67 => ?_) (fun c67 => ?_)
      · skip
        have k68 : Rg b1 (-2147483648) 401 := rg_e1 (leI c67) (rg_any b1) k48 (by decide)
        exact hJ71 (y45, g46) _ _ _ ⟨(hF2.trans (kLet_eq (ti_add ex47 H_a1 (rg_lit (n := 1) (by decide)) (by decide) rfl rfl) (kif_t (leI c67) rfl))), hP.sub (ws' := [(w0, oX10 tp ts wb h ph pd ps cr lr hd pk gs), (tp, kcI cI 400 ft), (h, oX0 m1 m2 m3 mc sc tx nr ra ru dy wa y45 lw), (m1, kcI cI 50 f1), (m2, kcI cI 72 g46), (m3, kcJ cJ 30 f3)]) [0, 1, 2, 3, 4, 5] rfl, hD.sub (ws' := [(w0, oX10 tp ts wb h ph pd ps cr lr hd pk gs), (tp, kcI cI 400 ft), (h, oX0 m1 m2 m3 mc sc tx nr ra ru dy wa y45 lw), (m1, kcI cI 50 f1), (m2, kcI cI 72 g46), (m3, kcJ cJ 30 f3)]) [0, 1, 2, 3, 4, 5] (by decide) rfl, hS, lv_sub (l' := [(3, .int r1), (0, .ref w0), (1, .int a1), (2, .int b1)]) hl [0, 1, 2, 3] rfl⟩
      · skip
        have k69 : Rg b1 2 2147483647 := rg_l2 (nleI c67) k48 (rg_any b1) (by decide)
        refine lv_aload_n hx hb dX10_isStained_49 rfl (lv_at hl 1 rfl) ?_
        refine va_get (D := D) (ci := 9) (v := .ref h) (C := RX10) (T := TX10) (N := 12) hx hb hts iG_X10 hown hK hP 0 rfl rfl 3 (by decide) (hts _ w0_20) (fun _ h9 => h9) rfl dX10_isStained_50 ?_
        refine lv_iload_n hx hb dX10_isStained_53 rfl (lv_at hl 0 rfl) ?_
        refine lv_aload_n hx hb dX10_isStained_54 rfl (lv_at hl 1 rfl) ?_
        refine lv_iload_n hx hb dX10_isStained_55 rfl (lv_at hl 2 rfl) ?_
        refine lv_iconst (v := 1) hx hb dX10_isStained_56 (by decide) ?_
        refine lv_iadd hx hb dX10_isStained_57 ?_
        refine lv_topi (fun x70 ex70 => ?_)
        have k71 : Rg x70 1 401 := rg_add ex70 H_a1 (rg_lit (n := 1) (by decide)) (by decide)
        refine kpurei (wc := [(w0, oX10 tp ts wb h ph pd ps cr lr hd pk gs), (tp, kcI cI 400 ft)]) hP hD hS hA [0, 1] rfl (by decide) (fun hPc hDc hFc => va_runV (As := [.int x70]) (rest := [.int r1, .ref h]) ⟨hx, hb, hml, hown, hts⟩ (z_SW_shirtAt l D cI cJ cB cC w0 tp ts wb ph pd ps cr lr hd pk gs ft h x70 H.size) (cwV 1 hts gX10_isStained_X10_shirtAt rfl rfl rfl ⟨rfl, hdX10_shirtAt⟩ ⟨Nat.le_of_ble_eq_true rfl, Nat.le_of_ble_eq_true rfl⟩) ⟨kBlind, va_recv hK hPc (ci := 9) (q0 := 0) rfl rfl, fun U hU hW => ⟨rfl, by rw [hU], hN.warm hW, hE.pass hS hFc hW hU, by rw [hU]; exact hPc, va_K.moved hW.alike hK, hDc⟩⟩ rfl rfl hl.1 rfl (lv_room (Nat.le_of_ble_eq_true rfl)) dX10_isStained_58 ⟨Nat.le_of_ble_eq_true rfl, Nat.le_of_ble_eq_true rfl⟩) (fun r72 u H locs hw hP hS => ?_)
        have k73 := hw
        refine kcalli (wc := [(h, oX0 m1 m2 m3 mc sc tx nr ra ru dy wa y45 lw), (m1, kcI cI 50 f1), (m2, kcI cI 72 g46), (m3, kcJ cJ 30 f3)]) (wr := [(w0, oX10 tp ts wb h ph pd ps cr lr hd pk gs), (tp, kcI cI 400 ft)]) hP hD hS hA [2, 3, 4, 5] [0, 1] rfl rfl (by decide) (by decide) (by decide) (fun hPc hDc hFc => va_runVN (C := RX0) (As := [.int r1, .int r72]) (rest := []) ⟨hx, hb, hml, hown, hts⟩ (z_Camp_takesColourOf l D cI cJ cB cC h m1 m2 m3 mc sc tx nr ra ru dy wa y45 lw f1 g46 f3 r1 r72 H.size) ⟨va_cnB 2 hts gX10_isStained_X0_takesColourOf_n359 rfl rfl rfl (nM_71 hN) (hts _ w0_19) hdX0_takesColourOf ⟨Nat.le_of_ble_eq_true rfl, Nat.le_of_ble_eq_true rfl⟩, hts _ w37_4, hts _ w37_5⟩ ⟨kBlind, va_recv hK hPc (ci := 0) (q0 := 0) rfl rfl, fun U hU hW => ⟨rfl, by rw [hU], hN.warm hW, hE.pass hS hFc hW hU, by rw [hU]; exact hPc, va_K.moved hW.alike hK, hDc⟩⟩ rfl rfl hl.1 rfl (lv_room (Nat.le_of_ble_eq_true rfl)) dX10_isStained_61 ⟨Nat.le_of_ble_eq_true rfl, Nat.le_of_ble_eq_true rfl⟩) (fun r74 u H locs hw hP hD hS => ?_)
        obtain ⟨x75, g76⟩ := u
        have hP : va_P D vwCl [(w0, oX10 tp ts wb h ph pd ps cr lr hd pk gs), (tp, kcI cI 400 ft), (h, oX0 m1 m2 m3 mc sc tx nr ra ru dy wa x75 lw), (m1, kcI cI 50 f1), (m2, kcI cI 72 g76), (m3, kcJ cJ 30 f3)] H := hP
        have hD : va_D A [(w0, oX10 tp ts wb h ph pd ps cr lr hd pk gs), (tp, kcI cI 400 ft), (h, oX0 m1 m2 m3 mc sc tx nr ra ru dy wa x75 lw), (m1, kcI cI 50 f1), (m2, kcI cI 72 g76), (m3, kcJ cJ 30 f3)] := hD
        obtain ⟨k77, hw⟩ := hw
        rcases hw with rfl | ⟨rfl, kc78_0⟩
        · skip
          refine lv_if_eq (tgt := 71) hx hb dX10_isStained_64 (by decide) (fun _ => ?_) (fun c79 => absurd (by decide) c79)
          exact hJ71 (x75, g76) _ _ _ ⟨(hF2.trans (kLet_eq (ti_add ex47 H_a1 (rg_lit (n := 1) (by decide)) (by decide) rfl rfl) (kif_f (xF_le c67) (kLet_eq (ti_add ex70 H_a1 (rg_lit (n := 1) (by decide)) (by decide) rfl rfl) (kLet_eq (k73).symm (kC_eq k77 (kC_eq rfl (kif_t rfl rfl)))))))), hP.sub (ws' := [(w0, oX10 tp ts wb h ph pd ps cr lr hd pk gs), (tp, kcI cI 400 ft), (h, oX0 m1 m2 m3 mc sc tx nr ra ru dy wa x75 lw), (m1, kcI cI 50 f1), (m2, kcI cI 72 g76), (m3, kcJ cJ 30 f3)]) [0, 1, 2, 3, 4, 5] rfl, hD.sub (ws' := [(w0, oX10 tp ts wb h ph pd ps cr lr hd pk gs), (tp, kcI cI 400 ft), (h, oX0 m1 m2 m3 mc sc tx nr ra ru dy wa x75 lw), (m1, kcI cI 50 f1), (m2, kcI cI 72 g76), (m3, kcJ cJ 30 f3)]) [0, 1, 2, 3, 4, 5] (by decide) rfl, hS, lv_sub (l' := [(3, .int r1), (0, .ref w0), (1, .int a1), (2, .int b1)]) hl [0, 1, 2, 3] rfl⟩
        · skip
          refine lv_if_eq (tgt := 71) hx hb dX10_isStained_64 (by decide) (fun c80 => absurd c80 (by decide)) (fun _ => ?_)
          exact hJ67 (x75, g76) _ _ _ ⟨(hF2.trans (kLet_eq (ti_add ex47 H_a1 (rg_lit (n := 1) (by decide)) (by decide) rfl rfl) (kif_f (xF_le c67) (kLet_eq (ti_add ex70 H_a1 (rg_lit (n := 1) (by decide)) (by decide) rfl rfl) (kLet_eq (k73).symm (kC_eq k77 (kC_eq rfl (kif_f (by decide) rfl)))))))), hP.sub (ws' := [(w0, oX10 tp ts wb h ph pd ps cr lr hd pk gs), (tp, kcI cI 400 ft), (h, oX0 m1 m2 m3 mc sc tx nr ra ru dy wa x75 lw), (m1, kcI cI 50 f1), (m2, kcI cI 72 g76), (m3, kcJ cJ 30 f3)]) [0, 1, 2, 3, 4, 5] rfl, hD.sub (ws' := [(w0, oX10 tp ts wb h ph pd ps cr lr hd pk gs), (tp, kcI cI 400 ft), (h, oX0 m1 m2 m3 mc sc tx nr ra ru dy wa x75 lw), (m1, kcI cI 50 f1), (m2, kcI cI 72 g76), (m3, kcJ cJ 30 f3)]) [0, 1, 2, 3, 4, 5] (by decide) rfl, hS, lv_sub (l' := [(3, .int r1), (0, .ref w0), (1, .int a1), (2, .int b1)]) hl [0, 1, 2, 3] rfl⟩
    refine lv_if_le (tgt := 42) hx hb dX10_isStained_21 (by decide) (fun c81 => ?_) (fun c81 => ?_)
    · skip
      have k82 : Rg a1 0 0 := rg_e1 (leI c81) H_a1 (rg_lit (n := 0) (by decide)) (by decide)
      exact hJ42 (se, f2) _ _ _ ⟨(kLet_eq (k2).symm (kLet_eq (k4).symm (kif_t (eqI c5) (kif_t (leI c81) rfl)))), hP.sub (ws' := [(w0, oX10 tp ts wb h ph pd ps cr lr hd pk gs), (tp, kcI cI 400 ft), (h, oX0 m1 m2 m3 mc sc tx nr ra ru dy wa se lw), (m1, kcI cI 50 f1), (m2, kcI cI 72 f2), (m3, kcJ cJ 30 f3)]) [0, 1, 2, 3, 4, 5] rfl, hD.sub (ws' := [(w0, oX10 tp ts wb h ph pd ps cr lr hd pk gs), (tp, kcI cI 400 ft), (h, oX0 m1 m2 m3 mc sc tx nr ra ru dy wa se lw), (m1, kcI cI 50 f1), (m2, kcI cI 72 f2), (m3, kcJ cJ 30 f3)]) [0, 1, 2, 3, 4, 5] (by decide) rfl, hS, lv_sub (l' := [(3, .int r1), (0, .ref w0), (1, .int a1), (2, .int b1)]) hl [0, 1, 2, 3] rfl⟩
    · skip
      have k83 : Rg a1 1 400 := rg_l2 (nleI c81) (rg_lit (n := 0) (by decide)) H_a1 (by decide)
      refine lv_aload_n hx hb dX10_isStained_24 rfl (lv_at hl 1 rfl) ?_
      refine va_get (D := D) (ci := 9) (v := .ref h) (C := RX10) (T := TX10) (N := 12) hx hb hts iG_X10 hown hK hP 0 rfl rfl 3 (by decide) (hts _ w0_20) (fun _ h9 => h9) rfl dX10_isStained_25 ?_
      refine lv_iload_n hx hb dX10_isStained_28 rfl (lv_at hl 0 rfl) ?_
      refine lv_aload_n hx hb dX10_isStained_29 rfl (lv_at hl 1 rfl) ?_
      refine lv_iload_n hx hb dX10_isStained_30 rfl (lv_at hl 2 rfl) ?_
      refine lv_iconst (v := 1) hx hb dX10_isStained_31 (by decide) ?_
      refine lv_isub hx hb dX10_isStained_32 ?_
      refine lv_topi (fun x84 ex84 => ?_)
      have k85 : Rg x84 0 399 := rg_sub ex84 k83 (rg_lit (n := 1) (by decide)) (by decide)
      refine kpurei (wc := [(w0, oX10 tp ts wb h ph pd ps cr lr hd pk gs), (tp, kcI cI 400 ft)]) hP hD hS hA [0, 1] rfl (by decide) (fun hPc hDc hFc => va_runV (As := [.int x84]) (rest := [.int r1, .ref h]) ⟨hx, hb, hml, hown, hts⟩ (z_SW_shirtAt l D cI cJ cB cC w0 tp ts wb ph pd ps cr lr hd pk gs ft h x84 H.size) (cwV 1 hts gX10_isStained_X10_shirtAt rfl rfl rfl ⟨rfl, hdX10_shirtAt⟩ ⟨Nat.le_of_ble_eq_true rfl, Nat.le_of_ble_eq_true rfl⟩) ⟨kBlind, va_recv hK hPc (ci := 9) (q0 := 0) rfl rfl, fun U hU hW => ⟨rfl, by rw [hU], hN.warm hW, hE.pass hS hFc hW hU, by rw [hU]; exact hPc, va_K.moved hW.alike hK, hDc⟩⟩ rfl rfl hl.1 rfl (lv_room (Nat.le_of_ble_eq_true rfl)) dX10_isStained_33 ⟨Nat.le_of_ble_eq_true rfl, Nat.le_of_ble_eq_true rfl⟩) (fun r86 u H locs hw hP hS => ?_)
      have k87 := hw
      refine kcalli (wc := [(h, oX0 m1 m2 m3 mc sc tx nr ra ru dy wa se lw), (m1, kcI cI 50 f1), (m2, kcI cI 72 f2), (m3, kcJ cJ 30 f3)]) (wr := [(w0, oX10 tp ts wb h ph pd ps cr lr hd pk gs), (tp, kcI cI 400 ft)]) hP hD hS hA [2, 3, 4, 5] [0, 1] rfl rfl (by decide) (by decide) (by decide) (fun hPc hDc hFc => va_runVN (C := RX0) (As := [.int r1, .int r86]) (rest := []) ⟨hx, hb, hml, hown, hts⟩ (z_Camp_takesColourOf l D cI cJ cB cC h m1 m2 m3 mc sc tx nr ra ru dy wa se lw f1 f2 f3 r1 r86 H.size) ⟨va_cnB 2 hts gX10_isStained_X0_takesColourOf_n359 rfl rfl rfl (nM_71 hN) (hts _ w0_19) hdX0_takesColourOf ⟨Nat.le_of_ble_eq_true rfl, Nat.le_of_ble_eq_true rfl⟩, hts _ w37_4, hts _ w37_5⟩ ⟨kBlind, va_recv hK hPc (ci := 0) (q0 := 0) rfl rfl, fun U hU hW => ⟨rfl, by rw [hU], hN.warm hW, hE.pass hS hFc hW hU, by rw [hU]; exact hPc, va_K.moved hW.alike hK, hDc⟩⟩ rfl rfl hl.1 rfl (lv_room (Nat.le_of_ble_eq_true rfl)) dX10_isStained_36 ⟨Nat.le_of_ble_eq_true rfl, Nat.le_of_ble_eq_true rfl⟩) (fun r88 u H locs hw hP hD hS => ?_)
      obtain ⟨x89, g90⟩ := u
      have hP : va_P D vwCl [(w0, oX10 tp ts wb h ph pd ps cr lr hd pk gs), (tp, kcI cI 400 ft), (h, oX0 m1 m2 m3 mc sc tx nr ra ru dy wa x89 lw), (m1, kcI cI 50 f1), (m2, kcI cI 72 g90), (m3, kcJ cJ 30 f3)] H := hP
      have hD : va_D A [(w0, oX10 tp ts wb h ph pd ps cr lr hd pk gs), (tp, kcI cI 400 ft), (h, oX0 m1 m2 m3 mc sc tx nr ra ru dy wa x89 lw), (m1, kcI cI 50 f1), (m2, kcI cI 72 g90), (m3, kcJ cJ 30 f3)] := hD
      obtain ⟨k91, hw⟩ := hw
      rcases hw with rfl | ⟨rfl, kc92_0⟩
      · skip
        refine lv_if_ne (tgt := 67) hx hb dX10_isStained_39 (by decide) (fun c93 => absurd (by decide) c93) (fun _ => ?_)
        exact hJ42 (x89, g90) _ _ _ ⟨(kLet_eq (k2).symm (kLet_eq (k4).symm (kif_t (eqI c5) (kif_f (xF_le c81) (kLet_eq (ti_sub ex84 k83 (rg_lit (n := 1) (by decide)) (by decide) rfl rfl) (kLet_eq (k87).symm (kC_eq k91 (kC_eq rfl (kif_t rfl rfl))))))))), hP.sub (ws' := [(w0, oX10 tp ts wb h ph pd ps cr lr hd pk gs), (tp, kcI cI 400 ft), (h, oX0 m1 m2 m3 mc sc tx nr ra ru dy wa x89 lw), (m1, kcI cI 50 f1), (m2, kcI cI 72 g90), (m3, kcJ cJ 30 f3)]) [0, 1, 2, 3, 4, 5] rfl, hD.sub (ws' := [(w0, oX10 tp ts wb h ph pd ps cr lr hd pk gs), (tp, kcI cI 400 ft), (h, oX0 m1 m2 m3 mc sc tx nr ra ru dy wa x89 lw), (m1, kcI cI 50 f1), (m2, kcI cI 72 g90), (m3, kcJ cJ 30 f3)]) [0, 1, 2, 3, 4, 5] (by decide) rfl, hS, lv_sub (l' := [(3, .int r1), (0, .ref w0), (1, .int a1), (2, .int b1)]) hl [0, 1, 2, 3] rfl⟩
      · skip
        refine lv_if_ne (tgt := 67) hx hb dX10_isStained_39 (by decide) (fun _ => ?_) (fun c94 => absurd c94 (by decide))
        exact hJ67 (x89, g90) _ _ _ ⟨(kLet_eq (k2).symm (kLet_eq (k4).symm (kif_t (eqI c5) (kif_f (xF_le c81) (kLet_eq (ti_sub ex84 k83 (rg_lit (n := 1) (by decide)) (by decide) rfl rfl) (kLet_eq (k87).symm (kC_eq k91 (kC_eq rfl (kif_f (by decide) rfl))))))))), hP.sub (ws' := [(w0, oX10 tp ts wb h ph pd ps cr lr hd pk gs), (tp, kcI cI 400 ft), (h, oX0 m1 m2 m3 mc sc tx nr ra ru dy wa x89 lw), (m1, kcI cI 50 f1), (m2, kcI cI 72 g90), (m3, kcJ cJ 30 f3)]) [0, 1, 2, 3, 4, 5] rfl, hD.sub (ws' := [(w0, oX10 tp ts wb h ph pd ps cr lr hd pk gs), (tp, kcI cI 400 ft), (h, oX0 m1 m2 m3 mc sc tx nr ra ru dy wa x89 lw), (m1, kcI cI 50 f1), (m2, kcI cI 72 g90), (m3, kcJ cJ 30 f3)]) [0, 1, 2, 3, 4, 5] (by decide) rfl, hS, lv_sub (l' := [(3, .int r1), (0, .ref w0), (1, .int a1), (2, .int b1)]) hl [0, 1, 2, 3] rfl⟩
  · skip
    refine lv_iconst (v := 0) hx hb dX10_isStained_18 (by decide) ?_
    have hP9 := hP.sub (ws' := [(w0, oX10 tp ts wb h ph pd ps cr lr hd pk gs), (tp, kcI cI 400 ft), (h, oX0 m1 m2 m3 mc sc tx nr ra ru dy wa se lw), (m1, kcI cI 50 f1), (m2, kcI cI 72 f2), (m3, kcJ cJ 30 f3)]) [0, 1, 2, 3, 4, 5] rfl
    have hD9 := hD.sub (ws' := [(w0, oX10 tp ts wb h ph pd ps cr lr hd pk gs), (tp, kcI cI 400 ft), (h, oX0 m1 m2 m3 mc sc tx nr ra ru dy wa se lw), (m1, kcI cI 50 f1), (m2, kcI cI 72 f2), (m3, kcJ cJ 30 f3)]) [0, 1, 2, 3, 4, 5] (by decide) rfl
    exact W.zret (v := 0) hx hb hr (by decide) (fun t ht hW => ⟨⟨0, (se, f2), rfl, ⟨(kLet_eq (k2).symm (kLet_eq (k4).symm (kif_f (neI c5) rfl))), (Or.inl rfl)⟩, by rw [ht]; exact hP9, va_K.moved hW.alike hK, hD9⟩, hS.F ht⟩) hS.2.2 dX10_isStained_19

def kwX10_passed : List Cond := .code yX10_passed cX10_passed 4 (some .int) :: kG
theorem hdX10_passed : yX10_passed.cls ≠ "java/lang/invoke/MethodHandle" ∧ yX10_passed.cls ≠ "java/lang/invoke/VarHandle" ∧ (parseMethodDescriptor yX10_passed.desc).map (fun d => d.parameters.length) = some 1 := by decide +kernel
theorem gX10_passed_X0_neighboursOf_n149 : GoodIn kG (kwX0_neighboursOf) := gK w26_16 gGG
theorem dX10_passed_0 : decode cX10_passed 0 = .ok (.iload_n 1, 1) := by decide +kernel
theorem dX10_passed_1 : decode cX10_passed 1 = .ok (.istore_n 2, 1) := by decide +kernel
theorem dX10_passed_2 : decode cX10_passed 2 = .ok (.iconst 0, 1) := by decide +kernel
theorem dX10_passed_3 : decode cX10_passed 3 = .ok (.istore_n 3, 1) := by decide +kernel
theorem dX10_passed_4 : decode cX10_passed 4 = .ok (.iload_n 3, 1) := by decide +kernel
theorem dX10_passed_5 : decode cX10_passed 5 = .ok (.aload_n 0, 1) := by decide +kernel
theorem dX10_passed_6 : decode cX10_passed 6 = .ok (.getfield 23, 3) := by decide +kernel
theorem dX10_passed_9 : decode cX10_passed 9 = .ok (.getfield 256, 3) := by decide +kernel
theorem dX10_passed_12 : decode cX10_passed 12 = .ok (.if_icmp .ge 28, 3) := by decide +kernel
theorem dX10_passed_15 : decode cX10_passed 15 = .ok (.iload_n 1, 1) := by decide +kernel
theorem dX10_passed_16 : decode cX10_passed 16 = .ok (.iload_n 3, 1) := by decide +kernel
theorem dX10_passed_17 : decode cX10_passed 17 = .ok (.ishr, 1) := by decide +kernel
theorem dX10_passed_18 : decode cX10_passed 18 = .ok (.iconst 1, 1) := by decide +kernel
theorem dX10_passed_19 : decode cX10_passed 19 = .ok (.iand, 1) := by decide +kernel
theorem dX10_passed_20 : decode cX10_passed 20 = .ok (.ifCond .eq 14, 3) := by decide +kernel
theorem dX10_passed_23 : decode cX10_passed 23 = .ok (.iload_n 2, 1) := by decide +kernel
theorem dX10_passed_24 : decode cX10_passed 24 = .ok (.aload_n 0, 1) := by decide +kernel
theorem dX10_passed_25 : decode cX10_passed 25 = .ok (.getfield 23, 3) := by decide +kernel
theorem dX10_passed_28 : decode cX10_passed 28 = .ok (.iload_n 3, 1) := by decide +kernel
theorem dX10_passed_29 : decode cX10_passed 29 = .ok (.invokevirtual 149, 3) := by decide +kernel
theorem dX10_passed_32 : decode cX10_passed 32 = .ok (.ior, 1) := by decide +kernel
theorem dX10_passed_33 : decode cX10_passed 33 = .ok (.istore_n 2, 1) := by decide +kernel
theorem dX10_passed_34 : decode cX10_passed 34 = .ok (.iinc 3 1, 3) := by decide +kernel
theorem dX10_passed_37 : decode cX10_passed 37 = .ok (.goto (-33), 3) := by decide +kernel
theorem dX10_passed_40 : decode cX10_passed 40 = .ok (.iload_n 2, 1) := by decide +kernel
theorem dX10_passed_41 : decode cX10_passed 41 = .ok (.ireturn, 1) := by decide +kernel
set_option maxHeartbeats 4000000 in
set_option maxRecDepth 100000 in
/-- ShirtWash.passed -/
theorem z_SW_passed (l : Launch) (D : va_G) (cI cJ cB cC : ClassId) (w0 : Nat) (tp : Nat) (ts : Int32) (wb : Int32) (ph : Nat) (pd : Int32) (ps : Nat) (cr : Nat) (lr : Nat) (hd : Nat) (pk : Nat) (gs : Nat) (h : Nat) (m1 : Nat) (m2 : Nat) (m3 : Nat) (mc : Int32) (sc : Int32) (tx : Int32) (nr : Int32) (ra : Int32) (ru : Int32) (dy : Int32) (wa : Int32) (se : Int32) (lw : Option Nat) (f1 : Nat → Int32) (f2 : Nat → Int32) (f3 : Nat → Int64) (a1 : Int32) (sz : Nat)  : Met l yX10_passed kwX10_passed ({ frames := 3, cells := 0, slots := 0, locals := 68 } : Room) (kPre D (kT cI cJ cB cC) sz [(w0, oX10 tp ts wb h ph pd ps cr lr hd pk gs), (h, oX0 m1 m2 m3 mc sc tx nr ra ru dy wa se lw), (m1, kcI cI 50 f1), (m2, kcI cI 72 f2), (m3, kcJ cJ 30 f3)] [.ref w0, .int a1]) (va_Qi (fun (r : Int32) (_ : Unit) => F_z_SW_passed (mc : Int32).toInt (nr : Int32).toInt (gT f1) (a1 : Int32).toInt = ((r : Int32).toInt)) (fun (_ : Unit) (t : State) => kB D (kT cI cJ cB cC) (va_A [(w0, oX10 tp ts wb h ph pd ps cr lr hd pk gs), (h, oX0 m1 m2 m3 mc sc tx nr ra ru dy wa se lw), (m1, kcI cI 50 f1), (m2, kcI cI 72 f2), (m3, kcJ cJ 30 f3)] sz) [(w0, oX10 tp ts wb h ph pd ps cr lr hd pk gs), (h, oX0 m1 m2 m3 mc sc tx nr ra ru dy wa se lw), (m1, kcI cI 50 f1), (m2, kcI cI 72 f2), (m3, kcJ cJ 30 f3)] t) (va_A [(w0, oX10 tp ts wb h ph pd ps cr lr hd pk gs), (h, oX0 m1 m2 m3 mc sc tx nr ra ru dy wa se lw), (m1, kcI cI 50 f1), (m2, kcI cI 72 f2), (m3, kcJ cJ 30 f3)] sz)) 0 0 (va_A [(w0, oX10 tp ts wb h ph pd ps cr lr hd pk gs), (h, oX0 m1 m2 m3 mc sc tx nr ra ru dy wa se lw), (m1, kcI cI 50 f1), (m2, kcI cI 72 f2), (m3, kcJ cJ 30 f3)] sz) := by
  refine Met.ofW (cc := cX10_passed) (maxL := 4) (ret := (some .int)) (by decide) rfl ?_
  intro p e s m args below meth c s₁ B hml hv
  obtain ⟨rfl, hsz, hN, hE, hP, hK, hD0⟩ := hv
  have hx := B.exec
  have hb := B.bytes
  have hr := B.returns
  have hts := fun (w : Cond) (h : w ∈ kG) => atoms_spec (ws := kwX10_passed) B.pre w (List.mem_cons_of_mem _ h)
  have hown : s.vm.findClass RX10 = some m.cls := findClass_of_methodNamed B.named
  subst hsz
  have hD := hD0.self (sz := s.heap.size)
  generalize hAe : va_A [(w0, oX10 tp ts wb h ph pd ps cr lr hd pk gs), (h, oX0 m1 m2 m3 mc sc tx nr ra ru dy wa se lw), (m1, kcI cI 50 f1), (m2, kcI cI 72 f2), (m3, kcJ cJ 30 f3)] s.heap.size = A at hD hE ⊢
  have hA : ∀ q : Nat, s.heap.size ≤ q → A q := fun q h => by rw [← hAe]; exact Or.inr h
  have hl := lv_entry ([.ref w0, .int a1]) (n := 4) (Nat.le_of_ble_eq_true rfl)
  rw [lg_entry_eq]
  generalize (lg_sl ([.ref w0, .int a1]) ++ List.replicate (4 - (lg_sl ([.ref w0, .int a1])).length) Slot.unset).toArray = ls at hl ⊢
  have hl : lv_has ls 4 [(0, .ref w0), (1, .int a1)] := hl
  obtain ⟨H, hH0⟩ : ∃ H, H = s.heap := ⟨_, rfl⟩
  have hS : va_S A s.heap H [] := by rw [hH0]; exact va_S.rf
  have hP : va_P D vwCl [(w0, oX10 tp ts wb h ph pd ps cr lr hd pk gs), (h, oX0 m1 m2 m3 mc sc tx nr ra ru dy wa se lw), (m1, kcI cI 50 f1), (m2, kcI cI 72 f2), (m3, kcJ cJ 30 f3)] H := by rw [hH0]; exact hP
  refine kHeap hH0 ?_
  clear hH0
  refine lv_iload_n hx hb dX10_passed_0 rfl (lv_at hl 1 rfl) ?_
  refine lv_istore_n (lv' := [(2, .int a1), (0, .ref w0), (1, .int a1)]) hx hb dX10_passed_1 rfl hl (by decide) rfl (fun ls hl => ?_)
  refine lv_iconst (v := 0) hx hb dX10_passed_2 (by decide) ?_
  refine lv_istore_n (lv' := [(3, .int 0), (2, .int a1), (0, .ref w0), (1, .int a1)]) hx hb dX10_passed_3 rfl hl (by decide) rfl (fun ls hl => ?_)
  refine k_loop (hd := 4) (fun (u : Int32 × Int32) => match u with | (y150, y151) => (2147483647 - (y150).toInt).toNat) (fun (u : Int32 × Int32) (H : Heap) (locs : List Loc) (ls : Array Slot) => match u with | (y150, y151) => (F_z_SW_passed mc.toInt nr.toInt (gT f1) a1.toInt = F_z_SW_passed_l1 mc.toInt nr.toInt (gT f1) a1.toInt (y150.toInt, y151.toInt)) ∧ Rg y150 0 2147483647 ∧ va_P D vwCl [(w0, oX10 tp ts wb h ph pd ps cr lr hd pk gs), (h, oX0 m1 m2 m3 mc sc tx nr ra ru dy wa se lw), (m1, kcI cI 50 f1), (m2, kcI cI 72 f2), (m3, kcJ cJ 30 f3)] H ∧ va_D A [(w0, oX10 tp ts wb h ph pd ps cr lr hd pk gs), (h, oX0 m1 m2 m3 mc sc tx nr ra ru dy wa se lw), (m1, kcI cI 50 f1), (m2, kcI cI 72 f2), (m3, kcJ cJ 30 f3)] ∧ va_S A s.heap H locs ∧ lv_has ls 4 [(3, .int y150), (2, .int y151), (0, .ref w0), (1, .int a1)]) ((0 : Int32), a1) ⟨rfl, (rg_w (rg_lit (n := 0) (by decide)) (by decide)), hP.sub (ws' := [(w0, oX10 tp ts wb h ph pd ps cr lr hd pk gs), (h, oX0 m1 m2 m3 mc sc tx nr ra ru dy wa se lw), (m1, kcI cI 50 f1), (m2, kcI cI 72 f2), (m3, kcJ cJ 30 f3)]) [0, 1, 2, 3, 4] rfl, hD.sub (ws' := [(w0, oX10 tp ts wb h ph pd ps cr lr hd pk gs), (h, oX0 m1 m2 m3 mc sc tx nr ra ru dy wa se lw), (m1, kcI cI 50 f1), (m2, kcI cI 72 f2), (m3, kcJ cJ 30 f3)]) [0, 1, 2, 3, 4] (by decide) rfl, hS, lv_sub (l' := [(3, .int 0), (2, .int a1), (0, .ref w0), (1, .int a1)]) hl [0, 1, 2, 3] rfl⟩ (fun u H locs ls hI ih152 => ?_)
  clear hP hD hS hl
  obtain ⟨y150, y151⟩ := u
  obtain ⟨hF1, hy150, hP, hD, hS, hl⟩ := hI
  have hP : va_P D vwCl [(w0, oX10 tp ts wb h ph pd ps cr lr hd pk gs), (h, oX0 m1 m2 m3 mc sc tx nr ra ru dy wa se lw), (m1, kcI cI 50 f1), (m2, kcI cI 72 f2), (m3, kcJ cJ 30 f3)] H := hP
  have hD : va_D A [(w0, oX10 tp ts wb h ph pd ps cr lr hd pk gs), (h, oX0 m1 m2 m3 mc sc tx nr ra ru dy wa se lw), (m1, kcI cI 50 f1), (m2, kcI cI 72 f2), (m3, kcJ cJ 30 f3)] := hD
  have hl : lv_has ls 4 [(3, .int y150), (2, .int y151), (0, .ref w0), (1, .int a1)] := hl
  refine lv_iload_n hx hb dX10_passed_4 rfl (lv_at hl 0 rfl) ?_
  refine lv_aload_n hx hb dX10_passed_5 rfl (lv_at hl 2 rfl) ?_
  refine va_get (D := D) (ci := 9) (v := .ref h) (C := RX10) (T := TX10) (N := 12) hx hb hts iG_X10 hown hK hP 0 rfl rfl 3 (by decide) (hts _ w0_20) (fun _ h9 => h9) rfl dX10_passed_6 ?_
  refine va_getN (D := D) (ci := 0) (v := .int mc) (C := RX0) (T := TX0) (N := 13) hx hb hts iG_X0 hown hK hP 1 rfl rfl 3 (by decide) (nF_3 hN) (fun _ h9 => h9) rfl dX10_passed_9 ?_
  refine lv_icmp_ge (tgt := 40) hx hb dX10_passed_12 (by decide) (fun c153 => ?_) (fun c153 => ?_)
  · skip
    refine lv_iload_n hx hb dX10_passed_40 rfl (lv_at hl 1 rfl) ?_
    have hP9 := hP.sub (ws' := [(w0, oX10 tp ts wb h ph pd ps cr lr hd pk gs), (h, oX0 m1 m2 m3 mc sc tx nr ra ru dy wa se lw), (m1, kcI cI 50 f1), (m2, kcI cI 72 f2), (m3, kcJ cJ 30 f3)]) [0, 1, 2, 3, 4] rfl
    have hD9 := hD.sub (ws' := [(w0, oX10 tp ts wb h ph pd ps cr lr hd pk gs), (h, oX0 m1 m2 m3 mc sc tx nr ra ru dy wa se lw), (m1, kcI cI 50 f1), (m2, kcI cI 72 f2), (m3, kcJ cJ 30 f3)]) [0, 1, 2, 3, 4] (by decide) rfl
    exact W.iret (v := y151) hx hb hr (fun t ht hW => ⟨⟨y151, (), rfl, (hF1.trans (kIter_out (kC_eq rfl (kif_t (leI c153) rfl)))), by rw [ht]; exact hP9, va_K.moved hW.alike hK, hD9⟩, hS.F ht⟩) hS.2.2 dX10_passed_41
  · skip
    have k154 : Rg y150 0 2147483646 := rg_l1 (nleI c153) hy150 (rg_any mc) (by decide)
    have k155 : Rg mc 1 2147483647 := rg_l2 (nleI c153) hy150 (rg_any mc) (by decide)
    refine lv_iload_n hx hb dX10_passed_15 rfl (lv_at hl 3 rfl) ?_
    refine lv_iload_n hx hb dX10_passed_16 rfl (lv_at hl 0 rfl) ?_
    refine lv_ishr hx hb dX10_passed_17 ?_
    refine lv_topi (fun x156 ex156 => ?_)
    refine lv_iconst (v := 1) hx hb dX10_passed_18 (by decide) ?_
    refine lv_iand hx hb dX10_passed_19 ?_
    refine lv_topi (fun x157 ex157 => ?_)
    have k158 : Rg x157 0 1 := rg_andr ex157 (rg_lit (n := 1) (by decide)) (by decide)
    refine k_join (hd := 34) (cells2 := 0) (slots2 := 0) (fun (y166 : Int32) => []) (fun (y166 : Int32) (H : Heap) (locs : List Loc) (ls : Array Slot) => (F_z_SW_passed_l1_s mc.toInt nr.toInt (gT f1) a1.toInt (y150.toInt, y151.toInt) = F_z_SW_passed_j2 y150.toInt y166.toInt) ∧ va_P D vwCl [(w0, oX10 tp ts wb h ph pd ps cr lr hd pk gs), (h, oX0 m1 m2 m3 mc sc tx nr ra ru dy wa se lw), (m1, kcI cI 50 f1), (m2, kcI cI 72 f2), (m3, kcJ cJ 30 f3)] H ∧ va_D A [(w0, oX10 tp ts wb h ph pd ps cr lr hd pk gs), (h, oX0 m1 m2 m3 mc sc tx nr ra ru dy wa se lw), (m1, kcI cI 50 f1), (m2, kcI cI 72 f2), (m3, kcJ cJ 30 f3)] ∧ va_S A s.heap H locs ∧ lv_has ls 4 [(3, .int y150), (2, .int y166), (0, .ref w0), (1, .int a1)]) (fun u H locs ls hI => ?_) (fun hJ34 => ?_)
    · skip
      clear hP hD hS hl
      obtain ⟨y166, rfl⟩ : ∃ z, z = u := ⟨_, rfl⟩
      obtain ⟨hF2, hP, hD, hS, hl⟩ := hI
      have hP : va_P D vwCl [(w0, oX10 tp ts wb h ph pd ps cr lr hd pk gs), (h, oX0 m1 m2 m3 mc sc tx nr ra ru dy wa se lw), (m1, kcI cI 50 f1), (m2, kcI cI 72 f2), (m3, kcJ cJ 30 f3)] H := hP
      have hD : va_D A [(w0, oX10 tp ts wb h ph pd ps cr lr hd pk gs), (h, oX0 m1 m2 m3 mc sc tx nr ra ru dy wa se lw), (m1, kcI cI 50 f1), (m2, kcI cI 72 f2), (m3, kcJ cJ 30 f3)] := hD
      have hl : lv_has ls 4 [(3, .int y150), (2, .int y166), (0, .ref w0), (1, .int a1)] := hl
      obtain ⟨x167, ex167⟩ : ∃ y : Int32, y = y150 + 1 := ⟨_, rfl⟩
      refine lv_iinc (v := x167) (lv' := [(3, .int x167), (2, .int y166), (0, .ref w0), (1, .int a1)]) hx hb dX10_passed_34 hl (k := 0) rfl (by rw [ex167]; rfl) (by decide) rfl (fun ls hl => ?_)
      have k168 : Rg x167 1 2147483647 := rg_add ex167 k154 (rg_lit (n := 1) (by decide)) (by decide)
      refine lv_goto (tgt := 4) hx hb dX10_passed_37 (by decide) ?_
      exact ih152 (x167, y166) _ _ _ (by show (2147483647 - (x167).toInt).toNat < (2147483647 - (y150).toInt).toNat; exact mu_up ex167 k154 k168 (by decide)) ⟨(hF1.trans (kIter_go (hF2.trans (kLet_eq (ti_add ex167 k154 (rg_lit (n := 1) (by decide)) (by decide) rfl rfl) rfl)))), (rg_w k168 (by decide)), hP.sub (ws' := [(w0, oX10 tp ts wb h ph pd ps cr lr hd pk gs), (h, oX0 m1 m2 m3 mc sc tx nr ra ru dy wa se lw), (m1, kcI cI 50 f1), (m2, kcI cI 72 f2), (m3, kcJ cJ 30 f3)]) [0, 1, 2, 3, 4] rfl, hD.sub (ws' := [(w0, oX10 tp ts wb h ph pd ps cr lr hd pk gs), (h, oX0 m1 m2 m3 mc sc tx nr ra ru dy wa se lw), (m1, kcI cI 50 f1), (m2, kcI cI 72 f2), (m3, kcJ cJ 30 f3)]) [0, 1, 2, 3, 4] (by decide) rfl, hS, lv_sub (l' := [(3, .int x167), (2, .int y166), (0, .ref w0), (1, .int a1)]) hl [0, 1, 2, 3] rfl⟩
    refine lv_if_eq (tgt := 34) hx hb dX10_passed_20 (by decide) (fun c169 => ?_) (fun c169 => ?_)
    · skip
      have k170 : Rg x157 0 0 := rg_q1 (eqI c169) k158 (rg_lit (n := 0) (by decide)) (by decide)
      exact hJ34 (y151) _ _ _ ⟨(kC_eq rfl (kif_f (xF_le c153) (kLet_eq (ke_shr ex156) (kLet_eq (ke_and ex157) (kif_t (eqI c169) rfl))))), hP.sub (ws' := [(w0, oX10 tp ts wb h ph pd ps cr lr hd pk gs), (h, oX0 m1 m2 m3 mc sc tx nr ra ru dy wa se lw), (m1, kcI cI 50 f1), (m2, kcI cI 72 f2), (m3, kcJ cJ 30 f3)]) [0, 1, 2, 3, 4] rfl, hD.sub (ws' := [(w0, oX10 tp ts wb h ph pd ps cr lr hd pk gs), (h, oX0 m1 m2 m3 mc sc tx nr ra ru dy wa se lw), (m1, kcI cI 50 f1), (m2, kcI cI 72 f2), (m3, kcJ cJ 30 f3)]) [0, 1, 2, 3, 4] (by decide) rfl, hS, lv_sub (l' := [(3, .int y150), (2, .int y151), (0, .ref w0), (1, .int a1)]) hl [0, 1, 2, 3] rfl⟩
    · skip
      have k171 : Rg x157 1 1 := rg_n1 (neI c169) k158 (rg_lit (n := 0) (by decide)) (by decide)
      refine lv_iload_n hx hb dX10_passed_23 rfl (lv_at hl 1 rfl) ?_
      refine lv_aload_n hx hb dX10_passed_24 rfl (lv_at hl 2 rfl) ?_
      refine va_get (D := D) (ci := 9) (v := .ref h) (C := RX10) (T := TX10) (N := 12) hx hb hts iG_X10 hown hK hP 0 rfl rfl 3 (by decide) (hts _ w0_20) (fun _ h9 => h9) rfl dX10_passed_25 ?_
      refine lv_iload_n hx hb dX10_passed_28 rfl (lv_at hl 0 rfl) ?_
      refine kpurei (wc := [(h, oX0 m1 m2 m3 mc sc tx nr ra ru dy wa se lw), (m1, kcI cI 50 f1), (m2, kcI cI 72 f2), (m3, kcJ cJ 30 f3)]) hP hD hS hA [1, 2, 3, 4] rfl (by decide) (fun hPc hDc hFc => va_runVN (C := RX0) (As := [.int y150]) (rest := [.int y151]) ⟨hx, hb, hml, hown, hts⟩ (z_Camp_neighboursOf l D cI cJ cB cC h m1 m2 m3 mc sc tx nr ra ru dy wa se lw f1 f2 f3 y150 H.size) ⟨va_cnB 1 hts gX10_passed_X0_neighboursOf_n149 rfl rfl rfl (nM_59 hN) (hts _ w0_19) hdX0_neighboursOf ⟨Nat.le_of_ble_eq_true rfl, Nat.le_of_ble_eq_true rfl⟩, hts _ w26_14, hts _ w26_15⟩ ⟨kBlind, va_recv hK hPc (ci := 0) (q0 := 0) rfl rfl, fun U hU hW => ⟨rfl, by rw [hU], hN.warm hW, hE.pass hS hFc hW hU, by rw [hU]; exact hPc, va_K.moved hW.alike hK, hDc⟩⟩ rfl rfl hl.1 rfl (lv_room (Nat.le_of_ble_eq_true rfl)) dX10_passed_29 ⟨Nat.le_of_ble_eq_true rfl, Nat.le_of_ble_eq_true rfl⟩) (fun r172 u H locs hw hP hS => ?_)
      have k173 := hw
      refine lv_ior hx hb dX10_passed_32 ?_
      refine lv_topi (fun x174 ex174 => ?_)
      refine lv_istore_n (lv' := [(2, .int x174), (3, .int y150), (0, .ref w0), (1, .int a1)]) hx hb dX10_passed_33 rfl hl (by decide) rfl (fun ls hl => ?_)
      exact hJ34 (x174) _ _ _ ⟨(kC_eq rfl (kif_f (xF_le c153) (kLet_eq (ke_shr ex156) (kLet_eq (ke_and ex157) (kif_f (neI c169) (kLet_eq (k173).symm (kLet_eq (ke_or ex174) rfl))))))), hP.sub (ws' := [(w0, oX10 tp ts wb h ph pd ps cr lr hd pk gs), (h, oX0 m1 m2 m3 mc sc tx nr ra ru dy wa se lw), (m1, kcI cI 50 f1), (m2, kcI cI 72 f2), (m3, kcJ cJ 30 f3)]) [0, 1, 2, 3, 4] rfl, hD.sub (ws' := [(w0, oX10 tp ts wb h ph pd ps cr lr hd pk gs), (h, oX0 m1 m2 m3 mc sc tx nr ra ru dy wa se lw), (m1, kcI cI 50 f1), (m2, kcI cI 72 f2), (m3, kcJ cJ 30 f3)]) [0, 1, 2, 3, 4] (by decide) rfl, hS, lv_sub (l' := [(3, .int y150), (2, .int x174), (0, .ref w0), (1, .int a1)]) hl [1, 0, 2, 3] rfl⟩

def kwX10_carried : List Cond := .code yX10_carried cX10_carried 4 (some .int) :: kG
theorem hdX10_carried : yX10_carried.cls ≠ "java/lang/invoke/MethodHandle" ∧ yX10_carried.cls ≠ "java/lang/invoke/VarHandle" ∧ (parseMethodDescriptor yX10_carried.desc).map (fun d => d.parameters.length) = some 1 := by decide +kernel
theorem gX10_carried_X10_byteAt : GoodIn kG (wsV RX10 353 RX10 yX10_byteAt kwX10_byteAt) := gK w36_15 (gK w36_16 (gK w36_17 (gK w0_2 (gK w36_18 gGG))))
theorem dX10_carried_0 : decode cX10_carried 0 = .ok (.iconst 0, 1) := by decide +kernel
theorem dX10_carried_1 : decode cX10_carried 1 = .ok (.istore_n 2, 1) := by decide +kernel
theorem dX10_carried_2 : decode cX10_carried 2 = .ok (.iconst 0, 1) := by decide +kernel
theorem dX10_carried_3 : decode cX10_carried 3 = .ok (.istore_n 3, 1) := by decide +kernel
theorem dX10_carried_4 : decode cX10_carried 4 = .ok (.iload_n 3, 1) := by decide +kernel
theorem dX10_carried_5 : decode cX10_carried 5 = .ok (.aload_n 0, 1) := by decide +kernel
theorem dX10_carried_6 : decode cX10_carried 6 = .ok (.getfield 23, 3) := by decide +kernel
theorem dX10_carried_9 : decode cX10_carried 9 = .ok (.getfield 256, 3) := by decide +kernel
theorem dX10_carried_12 : decode cX10_carried 12 = .ok (.if_icmp .ge 30, 3) := by decide +kernel
theorem dX10_carried_15 : decode cX10_carried 15 = .ok (.iload_n 1, 1) := by decide +kernel
theorem dX10_carried_16 : decode cX10_carried 16 = .ok (.iload_n 3, 1) := by decide +kernel
theorem dX10_carried_17 : decode cX10_carried 17 = .ok (.ishr, 1) := by decide +kernel
theorem dX10_carried_18 : decode cX10_carried 18 = .ok (.iconst 1, 1) := by decide +kernel
theorem dX10_carried_19 : decode cX10_carried 19 = .ok (.iand, 1) := by decide +kernel
theorem dX10_carried_20 : decode cX10_carried 20 = .ok (.ifCond .eq 16, 3) := by decide +kernel
theorem dX10_carried_23 : decode cX10_carried 23 = .ok (.iload_n 2, 1) := by decide +kernel
theorem dX10_carried_24 : decode cX10_carried 24 = .ok (.iconst 1, 1) := by decide +kernel
theorem dX10_carried_25 : decode cX10_carried 25 = .ok (.aload_n 0, 1) := by decide +kernel
theorem dX10_carried_26 : decode cX10_carried 26 = .ok (.iload_n 3, 1) := by decide +kernel
theorem dX10_carried_27 : decode cX10_carried 27 = .ok (.invokevirtual 353, 3) := by decide +kernel
theorem dX10_carried_30 : decode cX10_carried 30 = .ok (.bipush 48, 2) := by decide +kernel
theorem dX10_carried_32 : decode cX10_carried 32 = .ok (.isub, 1) := by decide +kernel
theorem dX10_carried_33 : decode cX10_carried 33 = .ok (.ishl, 1) := by decide +kernel
theorem dX10_carried_34 : decode cX10_carried 34 = .ok (.ior, 1) := by decide +kernel
theorem dX10_carried_35 : decode cX10_carried 35 = .ok (.istore_n 2, 1) := by decide +kernel
theorem dX10_carried_36 : decode cX10_carried 36 = .ok (.iinc 3 1, 3) := by decide +kernel
theorem dX10_carried_39 : decode cX10_carried 39 = .ok (.goto (-35), 3) := by decide +kernel
theorem dX10_carried_42 : decode cX10_carried 42 = .ok (.iload_n 2, 1) := by decide +kernel
theorem dX10_carried_43 : decode cX10_carried 43 = .ok (.ireturn, 1) := by decide +kernel
set_option maxHeartbeats 4000000 in
set_option maxRecDepth 100000 in
/-- ShirtWash.carried -/
theorem z_SW_carried (l : Launch) (D : va_G) (cI cJ cB cC : ClassId) (w0 : Nat) (tp : Nat) (ts : Int32) (wb : Int32) (ph : Nat) (pd : Int32) (ps : Nat) (cr : Nat) (lr : Nat) (hd : Nat) (pk : Nat) (gs : Nat) (ft : Nat → Int32) (h : Nat) (m1 : Nat) (m2 : Nat) (m3 : Nat) (mc : Int32) (sc : Int32) (tx : Int32) (nr : Int32) (ra : Int32) (ru : Int32) (dy : Int32) (wa : Int32) (se : Int32) (lw : Option Nat) (f1 : Nat → Int32) (f2 : Nat → Int32) (f3 : Nat → Int64) (a1 : Int32) (sz : Nat)  : Met l yX10_carried kwX10_carried ({ frames := 2, cells := 0, slots := 0, locals := 42 } : Room) (kPre D (kT cI cJ cB cC) sz [(w0, oX10 tp ts wb h ph pd ps cr lr hd pk gs), (tp, kcI cI 400 ft), (h, oX0 m1 m2 m3 mc sc tx nr ra ru dy wa se lw), (m1, kcI cI 50 f1), (m2, kcI cI 72 f2), (m3, kcJ cJ 30 f3)] [.ref w0, .int a1]) (va_Qi (fun (r : Int32) (_ : Unit) => F_z_SW_carried (gT ft) (mc : Int32).toInt (a1 : Int32).toInt = ((r : Int32).toInt)) (fun (_ : Unit) (t : State) => kB D (kT cI cJ cB cC) (va_A [(w0, oX10 tp ts wb h ph pd ps cr lr hd pk gs), (tp, kcI cI 400 ft), (h, oX0 m1 m2 m3 mc sc tx nr ra ru dy wa se lw), (m1, kcI cI 50 f1), (m2, kcI cI 72 f2), (m3, kcJ cJ 30 f3)] sz) [(w0, oX10 tp ts wb h ph pd ps cr lr hd pk gs), (tp, kcI cI 400 ft), (h, oX0 m1 m2 m3 mc sc tx nr ra ru dy wa se lw), (m1, kcI cI 50 f1), (m2, kcI cI 72 f2), (m3, kcJ cJ 30 f3)] t) (va_A [(w0, oX10 tp ts wb h ph pd ps cr lr hd pk gs), (tp, kcI cI 400 ft), (h, oX0 m1 m2 m3 mc sc tx nr ra ru dy wa se lw), (m1, kcI cI 50 f1), (m2, kcI cI 72 f2), (m3, kcJ cJ 30 f3)] sz)) 0 0 (va_A [(w0, oX10 tp ts wb h ph pd ps cr lr hd pk gs), (tp, kcI cI 400 ft), (h, oX0 m1 m2 m3 mc sc tx nr ra ru dy wa se lw), (m1, kcI cI 50 f1), (m2, kcI cI 72 f2), (m3, kcJ cJ 30 f3)] sz) := by
  refine Met.ofW (cc := cX10_carried) (maxL := 4) (ret := (some .int)) (by decide) rfl ?_
  intro p e s m args below meth c s₁ B hml hv
  obtain ⟨rfl, hsz, hN, hE, hP, hK, hD0⟩ := hv
  have hx := B.exec
  have hb := B.bytes
  have hr := B.returns
  have hts := fun (w : Cond) (h : w ∈ kG) => atoms_spec (ws := kwX10_carried) B.pre w (List.mem_cons_of_mem _ h)
  have hown : s.vm.findClass RX10 = some m.cls := findClass_of_methodNamed B.named
  subst hsz
  have hD := hD0.self (sz := s.heap.size)
  generalize hAe : va_A [(w0, oX10 tp ts wb h ph pd ps cr lr hd pk gs), (tp, kcI cI 400 ft), (h, oX0 m1 m2 m3 mc sc tx nr ra ru dy wa se lw), (m1, kcI cI 50 f1), (m2, kcI cI 72 f2), (m3, kcJ cJ 30 f3)] s.heap.size = A at hD hE ⊢
  have hA : ∀ q : Nat, s.heap.size ≤ q → A q := fun q h => by rw [← hAe]; exact Or.inr h
  have hl := lv_entry ([.ref w0, .int a1]) (n := 4) (Nat.le_of_ble_eq_true rfl)
  rw [lg_entry_eq]
  generalize (lg_sl ([.ref w0, .int a1]) ++ List.replicate (4 - (lg_sl ([.ref w0, .int a1])).length) Slot.unset).toArray = ls at hl ⊢
  have hl : lv_has ls 4 [(0, .ref w0), (1, .int a1)] := hl
  obtain ⟨H, hH0⟩ : ∃ H, H = s.heap := ⟨_, rfl⟩
  have hS : va_S A s.heap H [] := by rw [hH0]; exact va_S.rf
  have hP : va_P D vwCl [(w0, oX10 tp ts wb h ph pd ps cr lr hd pk gs), (tp, kcI cI 400 ft), (h, oX0 m1 m2 m3 mc sc tx nr ra ru dy wa se lw), (m1, kcI cI 50 f1), (m2, kcI cI 72 f2), (m3, kcJ cJ 30 f3)] H := by rw [hH0]; exact hP
  refine kHeap hH0 ?_
  clear hH0
  refine lv_iconst (v := 0) hx hb dX10_carried_0 (by decide) ?_
  refine lv_istore_n (lv' := [(2, .int 0), (0, .ref w0), (1, .int a1)]) hx hb dX10_carried_1 rfl hl (by decide) rfl (fun ls hl => ?_)
  refine lv_iconst (v := 0) hx hb dX10_carried_2 (by decide) ?_
  refine lv_istore_n (lv' := [(3, .int 0), (2, .int 0), (0, .ref w0), (1, .int a1)]) hx hb dX10_carried_3 rfl hl (by decide) rfl (fun ls hl => ?_)
  refine k_loop (hd := 4) (fun (u : Int32 × Int32) => match u with | (y168, y169) => (2147483647 - (y168).toInt).toNat) (fun (u : Int32 × Int32) (H : Heap) (locs : List Loc) (ls : Array Slot) => match u with | (y168, y169) => (F_z_SW_carried (gT ft) mc.toInt a1.toInt = F_z_SW_carried_l1 (gT ft) mc.toInt a1.toInt (y168.toInt, y169.toInt)) ∧ Rg y168 0 2147483647 ∧ va_P D vwCl [(w0, oX10 tp ts wb h ph pd ps cr lr hd pk gs), (tp, kcI cI 400 ft), (h, oX0 m1 m2 m3 mc sc tx nr ra ru dy wa se lw), (m1, kcI cI 50 f1), (m2, kcI cI 72 f2), (m3, kcJ cJ 30 f3)] H ∧ va_D A [(w0, oX10 tp ts wb h ph pd ps cr lr hd pk gs), (tp, kcI cI 400 ft), (h, oX0 m1 m2 m3 mc sc tx nr ra ru dy wa se lw), (m1, kcI cI 50 f1), (m2, kcI cI 72 f2), (m3, kcJ cJ 30 f3)] ∧ va_S A s.heap H locs ∧ lv_has ls 4 [(3, .int y168), (2, .int y169), (0, .ref w0), (1, .int a1)]) ((0 : Int32), (0 : Int32)) ⟨rfl, (rg_w (rg_lit (n := 0) (by decide)) (by decide)), hP.sub (ws' := [(w0, oX10 tp ts wb h ph pd ps cr lr hd pk gs), (tp, kcI cI 400 ft), (h, oX0 m1 m2 m3 mc sc tx nr ra ru dy wa se lw), (m1, kcI cI 50 f1), (m2, kcI cI 72 f2), (m3, kcJ cJ 30 f3)]) [0, 1, 2, 3, 4, 5] rfl, hD.sub (ws' := [(w0, oX10 tp ts wb h ph pd ps cr lr hd pk gs), (tp, kcI cI 400 ft), (h, oX0 m1 m2 m3 mc sc tx nr ra ru dy wa se lw), (m1, kcI cI 50 f1), (m2, kcI cI 72 f2), (m3, kcJ cJ 30 f3)]) [0, 1, 2, 3, 4, 5] (by decide) rfl, hS, lv_sub (l' := [(3, .int 0), (2, .int 0), (0, .ref w0), (1, .int a1)]) hl [0, 1, 2, 3] rfl⟩ (fun u H locs ls hI ih170 => ?_)
  clear hP hD hS hl
  obtain ⟨y168, y169⟩ := u
  obtain ⟨hF1, hy168, hP, hD, hS, hl⟩ := hI
  have hP : va_P D vwCl [(w0, oX10 tp ts wb h ph pd ps cr lr hd pk gs), (tp, kcI cI 400 ft), (h, oX0 m1 m2 m3 mc sc tx nr ra ru dy wa se lw), (m1, kcI cI 50 f1), (m2, kcI cI 72 f2), (m3, kcJ cJ 30 f3)] H := hP
  have hD : va_D A [(w0, oX10 tp ts wb h ph pd ps cr lr hd pk gs), (tp, kcI cI 400 ft), (h, oX0 m1 m2 m3 mc sc tx nr ra ru dy wa se lw), (m1, kcI cI 50 f1), (m2, kcI cI 72 f2), (m3, kcJ cJ 30 f3)] := hD
  have hl : lv_has ls 4 [(3, .int y168), (2, .int y169), (0, .ref w0), (1, .int a1)] := hl
  refine lv_iload_n hx hb dX10_carried_4 rfl (lv_at hl 0 rfl) ?_
  refine lv_aload_n hx hb dX10_carried_5 rfl (lv_at hl 2 rfl) ?_
  refine va_get (D := D) (ci := 9) (v := .ref h) (C := RX10) (T := TX10) (N := 12) hx hb hts iG_X10 hown hK hP 0 rfl rfl 3 (by decide) (hts _ w0_20) (fun _ h9 => h9) rfl dX10_carried_6 ?_
  refine va_getN (D := D) (ci := 0) (v := .int mc) (C := RX0) (T := TX0) (N := 13) hx hb hts iG_X0 hown hK hP 2 rfl rfl 3 (by decide) (nF_3 hN) (fun _ h9 => h9) rfl dX10_carried_9 ?_
  refine lv_icmp_ge (tgt := 42) hx hb dX10_carried_12 (by decide) (fun c171 => ?_) (fun c171 => ?_)
  · skip
    refine lv_iload_n hx hb dX10_carried_42 rfl (lv_at hl 1 rfl) ?_
    have hP9 := hP.sub (ws' := [(w0, oX10 tp ts wb h ph pd ps cr lr hd pk gs), (tp, kcI cI 400 ft), (h, oX0 m1 m2 m3 mc sc tx nr ra ru dy wa se lw), (m1, kcI cI 50 f1), (m2, kcI cI 72 f2), (m3, kcJ cJ 30 f3)]) [0, 1, 2, 3, 4, 5] rfl
    have hD9 := hD.sub (ws' := [(w0, oX10 tp ts wb h ph pd ps cr lr hd pk gs), (tp, kcI cI 400 ft), (h, oX0 m1 m2 m3 mc sc tx nr ra ru dy wa se lw), (m1, kcI cI 50 f1), (m2, kcI cI 72 f2), (m3, kcJ cJ 30 f3)]) [0, 1, 2, 3, 4, 5] (by decide) rfl
    exact W.iret (v := y169) hx hb hr (fun t ht hW => ⟨⟨y169, (), rfl, (hF1.trans (kIter_out (kC_eq rfl (kif_t (leI c171) rfl)))), by rw [ht]; exact hP9, va_K.moved hW.alike hK, hD9⟩, hS.F ht⟩) hS.2.2 dX10_carried_43
  · skip
    have k172 : Rg y168 0 2147483646 := rg_l1 (nleI c171) hy168 (rg_any mc) (by decide)
    have k173 : Rg mc 1 2147483647 := rg_l2 (nleI c171) hy168 (rg_any mc) (by decide)
    refine lv_iload_n hx hb dX10_carried_15 rfl (lv_at hl 3 rfl) ?_
    refine lv_iload_n hx hb dX10_carried_16 rfl (lv_at hl 0 rfl) ?_
    refine lv_ishr hx hb dX10_carried_17 ?_
    refine lv_topi (fun x174 ex174 => ?_)
    refine lv_iconst (v := 1) hx hb dX10_carried_18 (by decide) ?_
    refine lv_iand hx hb dX10_carried_19 ?_
    refine lv_topi (fun x175 ex175 => ?_)
    have k176 : Rg x175 0 1 := rg_andr ex175 (rg_lit (n := 1) (by decide)) (by decide)
    refine k_join (hd := 36) (cells2 := 0) (slots2 := 0) (fun (y186 : Int32) => []) (fun (y186 : Int32) (H : Heap) (locs : List Loc) (ls : Array Slot) => (F_z_SW_carried_l1_s (gT ft) mc.toInt a1.toInt (y168.toInt, y169.toInt) = F_z_SW_carried_j2 y168.toInt y186.toInt) ∧ va_P D vwCl [(w0, oX10 tp ts wb h ph pd ps cr lr hd pk gs), (tp, kcI cI 400 ft), (h, oX0 m1 m2 m3 mc sc tx nr ra ru dy wa se lw), (m1, kcI cI 50 f1), (m2, kcI cI 72 f2), (m3, kcJ cJ 30 f3)] H ∧ va_D A [(w0, oX10 tp ts wb h ph pd ps cr lr hd pk gs), (tp, kcI cI 400 ft), (h, oX0 m1 m2 m3 mc sc tx nr ra ru dy wa se lw), (m1, kcI cI 50 f1), (m2, kcI cI 72 f2), (m3, kcJ cJ 30 f3)] ∧ va_S A s.heap H locs ∧ lv_has ls 4 [(3, .int y168), (2, .int y186), (0, .ref w0), (1, .int a1)]) (fun u H locs ls hI => ?_) (fun hJ36 => ?_)
    · skip
      clear hP hD hS hl
      obtain ⟨y186, rfl⟩ : ∃ z, z = u := ⟨_, rfl⟩
      obtain ⟨hF2, hP, hD, hS, hl⟩ := hI
      have hP : va_P D vwCl [(w0, oX10 tp ts wb h ph pd ps cr lr hd pk gs), (tp, kcI cI 400 ft), (h, oX0 m1 m2 m3 mc sc tx nr ra ru dy wa se lw), (m1, kcI cI 50 f1), (m2, kcI cI 72 f2), (m3, kcJ cJ 30 f3)] H := hP
      have hD : va_D A [(w0, oX10 tp ts wb h ph pd ps cr lr hd pk gs), (tp, kcI cI 400 ft), (h, oX0 m1 m2 m3 mc sc tx nr ra ru dy wa se lw), (m1, kcI cI 50 f1), (m2, kcI cI 72 f2), (m3, kcJ cJ 30 f3)] := hD
      have hl : lv_has ls 4 [(3, .int y168), (2, .int y186), (0, .ref w0), (1, .int a1)] := hl
      obtain ⟨x187, ex187⟩ : ∃ y : Int32, y = y168 + 1 := ⟨_, rfl⟩
      refine lv_iinc (v := x187) (lv' := [(3, .int x187), (2, .int y186), (0, .ref w0), (1, .int a1)]) hx hb dX10_carried_36 hl (k := 0) rfl (by rw [ex187]; rfl) (by decide) rfl (fun ls hl => ?_)
      have k188 : Rg x187 1 2147483647 := rg_add ex187 k172 (rg_lit (n := 1) (by decide)) (by decide)
      refine lv_goto (tgt := 4) hx hb dX10_carried_39 (by decide) ?_
      exact ih170 (x187, y186) _ _ _ (by show (2147483647 - (x187).toInt).toNat < (2147483647 - (y168).toInt).toNat; exact mu_up ex187 k172 k188 (by decide)) ⟨(hF1.trans (kIter_go (hF2.trans (kLet_eq (ti_add ex187 k172 (rg_lit (n := 1) (by decide)) (by decide) rfl rfl) rfl)))), (rg_w k188 (by decide)), hP.sub (ws' := [(w0, oX10 tp ts wb h ph pd ps cr lr hd pk gs), (tp, kcI cI 400 ft), (h, oX0 m1 m2 m3 mc sc tx nr ra ru dy wa se lw), (m1, kcI cI 50 f1), (m2, kcI cI 72 f2), (m3, kcJ cJ 30 f3)]) [0, 1, 2, 3, 4, 5] rfl, hD.sub (ws' := [(w0, oX10 tp ts wb h ph pd ps cr lr hd pk gs), (tp, kcI cI 400 ft), (h, oX0 m1 m2 m3 mc sc tx nr ra ru dy wa se lw), (m1, kcI cI 50 f1), (m2, kcI cI 72 f2), (m3, kcJ cJ 30 f3)]) [0, 1, 2, 3, 4, 5] (by decide) rfl, hS, lv_sub (l' := [(3, .int x187), (2, .int y186), (0, .ref w0), (1, .int a1)]) hl [0, 1, 2, 3] rfl⟩
    refine lv_if_eq (tgt := 36) hx hb dX10_carried_20 (by decide) (fun c189 => ?_) (fun c189 => ?_)
    · skip
      have k190 : Rg x175 0 0 := rg_q1 (eqI c189) k176 (rg_lit (n := 0) (by decide)) (by decide)
      exact hJ36 (y169) _ _ _ ⟨(kC_eq rfl (kif_f (xF_le c171) (kLet_eq (ke_shr ex174) (kLet_eq (ke_and ex175) (kif_t (eqI c189) rfl))))), hP.sub (ws' := [(w0, oX10 tp ts wb h ph pd ps cr lr hd pk gs), (tp, kcI cI 400 ft), (h, oX0 m1 m2 m3 mc sc tx nr ra ru dy wa se lw), (m1, kcI cI 50 f1), (m2, kcI cI 72 f2), (m3, kcJ cJ 30 f3)]) [0, 1, 2, 3, 4, 5] rfl, hD.sub (ws' := [(w0, oX10 tp ts wb h ph pd ps cr lr hd pk gs), (tp, kcI cI 400 ft), (h, oX0 m1 m2 m3 mc sc tx nr ra ru dy wa se lw), (m1, kcI cI 50 f1), (m2, kcI cI 72 f2), (m3, kcJ cJ 30 f3)]) [0, 1, 2, 3, 4, 5] (by decide) rfl, hS, lv_sub (l' := [(3, .int y168), (2, .int y169), (0, .ref w0), (1, .int a1)]) hl [0, 1, 2, 3] rfl⟩
    · skip
      have k191 : Rg x175 1 1 := rg_n1 (neI c189) k176 (rg_lit (n := 0) (by decide)) (by decide)
      refine lv_iload_n hx hb dX10_carried_23 rfl (lv_at hl 1 rfl) ?_
      refine lv_iconst (v := 1) hx hb dX10_carried_24 (by decide) ?_
      refine lv_aload_n hx hb dX10_carried_25 rfl (lv_at hl 2 rfl) ?_
      refine lv_iload_n hx hb dX10_carried_26 rfl (lv_at hl 0 rfl) ?_
      refine kpurei (wc := [(w0, oX10 tp ts wb h ph pd ps cr lr hd pk gs), (tp, kcI cI 400 ft)]) hP hD hS hA [0, 1] rfl (by decide) (fun hPc hDc hFc => va_runV (As := [.int y168]) (rest := [.int 1, .int y169]) ⟨hx, hb, hml, hown, hts⟩ (z_SW_byteAt l D cI cJ cB cC w0 tp ts wb ph pd ps cr lr hd pk gs ft h y168 H.size) (cwV 1 hts gX10_carried_X10_byteAt rfl rfl rfl ⟨rfl, hdX10_byteAt⟩ ⟨Nat.le_of_ble_eq_true rfl, Nat.le_of_ble_eq_true rfl⟩) ⟨kBlind, va_recv hK hPc (ci := 9) (q0 := 0) rfl rfl, fun U hU hW => ⟨rfl, by rw [hU], hN.warm hW, hE.pass hS hFc hW hU, by rw [hU]; exact hPc, va_K.moved hW.alike hK, hDc⟩⟩ rfl rfl hl.1 rfl (lv_room (Nat.le_of_ble_eq_true rfl)) dX10_carried_27 ⟨Nat.le_of_ble_eq_true rfl, Nat.le_of_ble_eq_true rfl⟩) (fun r192 u H locs hw hP hS => ?_)
      have k193 := hw
      refine lv_bipush (v := 48) hx hb dX10_carried_30 (by decide) ?_
      refine lv_isub hx hb dX10_carried_32 ?_
      refine lv_topi (fun x194 ex194 => ?_)
      refine lv_ishl hx hb dX10_carried_33 ?_
      refine lv_topi (fun x195 ex195 => ?_)
      refine lv_ior hx hb dX10_carried_34 ?_
      refine lv_topi (fun x196 ex196 => ?_)
      refine lv_istore_n (lv' := [(2, .int x196), (3, .int y168), (0, .ref w0), (1, .int a1)]) hx hb dX10_carried_35 rfl hl (by decide) rfl (fun ls hl => ?_)
      exact hJ36 (x196) _ _ _ ⟨(kC_eq rfl (kif_f (xF_le c171) (kLet_eq (ke_shr ex174) (kLet_eq (ke_and ex175) (kif_f (neI c189) (kLet_eq (k193).symm (kLet_eq (ke_wsub ex194) (kLet_eq (ke_shl ex195) (kLet_eq (ke_or ex196) rfl))))))))), hP.sub (ws' := [(w0, oX10 tp ts wb h ph pd ps cr lr hd pk gs), (tp, kcI cI 400 ft), (h, oX0 m1 m2 m3 mc sc tx nr ra ru dy wa se lw), (m1, kcI cI 50 f1), (m2, kcI cI 72 f2), (m3, kcJ cJ 30 f3)]) [0, 1, 2, 3, 4, 5] rfl, hD.sub (ws' := [(w0, oX10 tp ts wb h ph pd ps cr lr hd pk gs), (tp, kcI cI 400 ft), (h, oX0 m1 m2 m3 mc sc tx nr ra ru dy wa se lw), (m1, kcI cI 50 f1), (m2, kcI cI 72 f2), (m3, kcJ cJ 30 f3)]) [0, 1, 2, 3, 4, 5] (by decide) rfl, hS, lv_sub (l' := [(3, .int y168), (2, .int x196), (0, .ref w0), (1, .int a1)]) hl [1, 0, 2, 3] rfl⟩

def kwX10_seed : List Cond := .code yX10_seed cX10_seed 3 (some .int) :: kG
theorem hdX10_seed : yX10_seed.cls ≠ "java/lang/invoke/MethodHandle" ∧ yX10_seed.cls ≠ "java/lang/invoke/VarHandle" ∧ (parseMethodDescriptor yX10_seed.desc).map (fun d => d.parameters.length) = some 1 := by decide +kernel
theorem dX10_seed_0 : decode cX10_seed 0 = .ok (.aload_n 0, 1) := by decide +kernel
theorem dX10_seed_1 : decode cX10_seed 1 = .ok (.getfield 23, 3) := by decide +kernel
theorem dX10_seed_4 : decode cX10_seed 4 = .ok (.getfield 318, 3) := by decide +kernel
theorem dX10_seed_7 : decode cX10_seed 7 = .ok (.istore_n 2, 1) := by decide +kernel
theorem dX10_seed_8 : decode cX10_seed 8 = .ok (.aload_n 0, 1) := by decide +kernel
theorem dX10_seed_9 : decode cX10_seed 9 = .ok (.getfield 23, 3) := by decide +kernel
theorem dX10_seed_12 : decode cX10_seed 12 = .ok (.iload_n 1, 1) := by decide +kernel
theorem dX10_seed_13 : decode cX10_seed 13 = .ok (.putfield 318, 3) := by decide +kernel
theorem dX10_seed_16 : decode cX10_seed 16 = .ok (.iload_n 2, 1) := by decide +kernel
theorem dX10_seed_17 : decode cX10_seed 17 = .ok (.ireturn, 1) := by decide +kernel
set_option maxHeartbeats 4000000 in
set_option maxRecDepth 100000 in
/-- ShirtWash.seed -/
theorem z_SW_seed (l : Launch) (D : va_G) (cI cJ cB cC : ClassId) (w0 : Nat) (tp : Nat) (ts : Int32) (wb : Int32) (ph : Nat) (pd : Int32) (ps : Nat) (cr : Nat) (lr : Nat) (hd : Nat) (pk : Nat) (gs : Nat) (h : Nat) (m1 : Nat) (m2 : Nat) (m3 : Nat) (mc : Int32) (sc : Int32) (tx : Int32) (nr : Int32) (ra : Int32) (ru : Int32) (dy : Int32) (wa : Int32) (se : Int32) (lw : Option Nat) (f1 : Nat → Int32) (f2 : Nat → Int32) (f3 : Nat → Int64) (a1 : Int32) (sz : Nat)  : Met l yX10_seed kwX10_seed ({ frames := 0, cells := 0, slots := 0, locals := 0 } : Room) (kPre D (kT cI cJ cB cC) sz [(w0, oX10 tp ts wb h ph pd ps cr lr hd pk gs), (h, oX0 m1 m2 m3 mc sc tx nr ra ru dy wa se lw), (m1, kcI cI 50 f1), (m2, kcI cI 72 f2), (m3, kcJ cJ 30 f3)] [.ref w0, .int a1]) (va_Qi (fun (r : Int32) (n0_ : Int32) => F_z_SW_seed (se : Int32).toInt (a1 : Int32).toInt = ((r : Int32).toInt, (n0_ : Int32).toInt)) (fun (n0_ : Int32) (t : State) => kB D (kT cI cJ cB cC) (va_A [(w0, oX10 tp ts wb h ph pd ps cr lr hd pk gs), (h, oX0 m1 m2 m3 mc sc tx nr ra ru dy wa se lw), (m1, kcI cI 50 f1), (m2, kcI cI 72 f2), (m3, kcJ cJ 30 f3)] sz) [(w0, oX10 tp ts wb h ph pd ps cr lr hd pk gs), (h, oX0 m1 m2 m3 mc sc tx nr ra ru dy wa n0_ lw), (m1, kcI cI 50 f1), (m2, kcI cI 72 f2), (m3, kcJ cJ 30 f3)] t) (va_A [(w0, oX10 tp ts wb h ph pd ps cr lr hd pk gs), (h, oX0 m1 m2 m3 mc sc tx nr ra ru dy wa se lw), (m1, kcI cI 50 f1), (m2, kcI cI 72 f2), (m3, kcJ cJ 30 f3)] sz)) 0 0 (va_A [(w0, oX10 tp ts wb h ph pd ps cr lr hd pk gs), (h, oX0 m1 m2 m3 mc sc tx nr ra ru dy wa se lw), (m1, kcI cI 50 f1), (m2, kcI cI 72 f2), (m3, kcJ cJ 30 f3)] sz) := by
  refine Met.ofW (cc := cX10_seed) (maxL := 3) (ret := (some .int)) (by decide) rfl ?_
  intro p e s m args below meth c s₁ B hml hv
  obtain ⟨rfl, hsz, hN, hE, hP, hK, hD0⟩ := hv
  have hx := B.exec
  have hb := B.bytes
  have hr := B.returns
  have hts := fun (w : Cond) (h : w ∈ kG) => atoms_spec (ws := kwX10_seed) B.pre w (List.mem_cons_of_mem _ h)
  have hown : s.vm.findClass RX10 = some m.cls := findClass_of_methodNamed B.named
  subst hsz
  have hD := hD0.self (sz := s.heap.size)
  generalize hAe : va_A [(w0, oX10 tp ts wb h ph pd ps cr lr hd pk gs), (h, oX0 m1 m2 m3 mc sc tx nr ra ru dy wa se lw), (m1, kcI cI 50 f1), (m2, kcI cI 72 f2), (m3, kcJ cJ 30 f3)] s.heap.size = A at hD hE ⊢
  have hA : ∀ q : Nat, s.heap.size ≤ q → A q := fun q h => by rw [← hAe]; exact Or.inr h
  have hl := lv_entry ([.ref w0, .int a1]) (n := 3) (Nat.le_of_ble_eq_true rfl)
  rw [lg_entry_eq]
  generalize (lg_sl ([.ref w0, .int a1]) ++ List.replicate (3 - (lg_sl ([.ref w0, .int a1])).length) Slot.unset).toArray = ls at hl ⊢
  have hl : lv_has ls 3 [(0, .ref w0), (1, .int a1)] := hl
  obtain ⟨H, hH0⟩ : ∃ H, H = s.heap := ⟨_, rfl⟩
  have hS : va_S A s.heap H [] := by rw [hH0]; exact va_S.rf
  have hP : va_P D vwCl [(w0, oX10 tp ts wb h ph pd ps cr lr hd pk gs), (h, oX0 m1 m2 m3 mc sc tx nr ra ru dy wa se lw), (m1, kcI cI 50 f1), (m2, kcI cI 72 f2), (m3, kcJ cJ 30 f3)] H := by rw [hH0]; exact hP
  refine kHeap hH0 ?_
  clear hH0
  refine lv_aload_n hx hb dX10_seed_0 rfl (lv_at hl 0 rfl) ?_
  refine va_get (D := D) (ci := 9) (v := .ref h) (C := RX10) (T := TX10) (N := 12) hx hb hts iG_X10 hown hK hP 0 rfl rfl 3 (by decide) (hts _ w0_20) (fun _ h9 => h9) rfl dX10_seed_1 ?_
  refine va_getN (D := D) (ci := 0) (v := .int se) (C := RX0) (T := TX0) (N := 13) hx hb hts iG_X0 hown hK hP 1 rfl rfl 11 (by decide) (nF_17 hN) (fun _ h9 => h9) rfl dX10_seed_4 ?_
  refine lv_istore_n (lv' := [(2, .int se), (0, .ref w0), (1, .int a1)]) hx hb dX10_seed_7 rfl hl (by decide) rfl (fun ls hl => ?_)
  refine lv_aload_n hx hb dX10_seed_8 rfl (lv_at hl 1 rfl) ?_
  refine va_get (D := D) (ci := 9) (v := .ref h) (C := RX10) (T := TX10) (N := 12) hx hb hts iG_X10 hown hK hP 0 rfl rfl 3 (by decide) (hts _ w0_20) (fun _ h9 => h9) rfl dX10_seed_9 ?_
  refine lv_iload_n hx hb dX10_seed_12 rfl (lv_at hl 2 rfl) ?_
  refine va_putN (D := D) (ci := 0) (v := .int a1) (ty := .int) (C := RX0) (T := TX0) (N := 13) hx hb hts iG_X0 tyX0 tyX0_ok nmX0 hown hK hP hD hS 1 rfl rfl 11 (by decide) (nF_17 hN) (fun _ h9 => h9) rfl (by decide +kernel) rfl rfl (Nat.le_of_ble_eq_true rfl) dX10_seed_13 (fun H locs hP hD hS => ?_)
  have hP : va_P D vwCl [(w0, oX10 tp ts wb h ph pd ps cr lr hd pk gs), (h, oX0 m1 m2 m3 mc sc tx nr ra ru dy wa a1 lw), (m1, kcI cI 50 f1), (m2, kcI cI 72 f2), (m3, kcJ cJ 30 f3)] H := hP
  have hD : va_D A [(w0, oX10 tp ts wb h ph pd ps cr lr hd pk gs), (h, oX0 m1 m2 m3 mc sc tx nr ra ru dy wa a1 lw), (m1, kcI cI 50 f1), (m2, kcI cI 72 f2), (m3, kcJ cJ 30 f3)] := hD
  refine lv_iload_n hx hb dX10_seed_16 rfl (lv_at hl 0 rfl) ?_
  have hP9 := hP.sub (ws' := [(w0, oX10 tp ts wb h ph pd ps cr lr hd pk gs), (h, oX0 m1 m2 m3 mc sc tx nr ra ru dy wa a1 lw), (m1, kcI cI 50 f1), (m2, kcI cI 72 f2), (m3, kcJ cJ 30 f3)]) [0, 1, 2, 3, 4] rfl
  have hD9 := hD.sub (ws' := [(w0, oX10 tp ts wb h ph pd ps cr lr hd pk gs), (h, oX0 m1 m2 m3 mc sc tx nr ra ru dy wa a1 lw), (m1, kcI cI 50 f1), (m2, kcI cI 72 f2), (m3, kcJ cJ 30 f3)]) [0, 1, 2, 3, 4] (by decide) rfl
  exact W.iret (v := se) hx hb hr (fun t ht hW => ⟨⟨se, (a1), rfl, rfl, by rw [ht]; exact hP9, va_K.moved hW.alike hK, hD9⟩, hS.F ht⟩) hS.2.2 dX10_seed_17

