def kwX10_barred : List Cond := .code yX10_barred cX10_barred 3 (some .boolean) :: kG
theorem hdX10_barred : yX10_barred.cls ≠ "java/lang/invoke/MethodHandle" ∧ yX10_barred.cls ≠ "java/lang/invoke/VarHandle" ∧ (parseMethodDescriptor yX10_barred.desc).map (fun d => d.parameters.length) = some 2 := by decide +kernel
theorem gX10_barred_X0_forbids_n170 : GoodIn kG (kwX0_forbids) := gK w29_1 gGG
theorem gX10_barred_X0_isMan_n136 : GoodIn kG (kwX0_isMan) := gK w14_20 gGG
theorem gX10_barred_X0_isShirt_n157 : GoodIn kG (kwX0_isShirt) := gK w15_6 gGG
theorem dX10_barred_0 : decode cX10_barred 0 = .ok (.aload_n 0, 1) := by decide +kernel
theorem dX10_barred_1 : decode cX10_barred 1 = .ok (.getfield 23, 3) := by decide +kernel
theorem dX10_barred_4 : decode cX10_barred 4 = .ok (.iload_n 1, 1) := by decide +kernel
theorem dX10_barred_5 : decode cX10_barred 5 = .ok (.invokevirtual 136, 3) := by decide +kernel
theorem dX10_barred_8 : decode cX10_barred 8 = .ok (.ifCond .eq 14, 3) := by decide +kernel
theorem dX10_barred_11 : decode cX10_barred 11 = .ok (.aload_n 0, 1) := by decide +kernel
theorem dX10_barred_12 : decode cX10_barred 12 = .ok (.getfield 23, 3) := by decide +kernel
theorem dX10_barred_15 : decode cX10_barred 15 = .ok (.iload_n 2, 1) := by decide +kernel
theorem dX10_barred_16 : decode cX10_barred 16 = .ok (.invokevirtual 157, 3) := by decide +kernel
theorem dX10_barred_19 : decode cX10_barred 19 = .ok (.ifCond .ne 13, 3) := by decide +kernel
theorem dX10_barred_22 : decode cX10_barred 22 = .ok (.new 139, 3) := by decide +kernel
theorem dX10_barred_25 : decode cX10_barred 25 = .ok (.dup, 1) := by decide +kernel
theorem dX10_barred_26 : decode cX10_barred 26 = .ok (.ldc 168, 2) := by decide +kernel
theorem dX10_barred_28 : decode cX10_barred 28 = .ok (.invokespecial 143, 3) := by decide +kernel
theorem dX10_barred_31 : decode cX10_barred 31 = .ok (.athrow, 1) := by decide +kernel
theorem dX10_barred_32 : decode cX10_barred 32 = .ok (.aload_n 0, 1) := by decide +kernel
theorem dX10_barred_33 : decode cX10_barred 33 = .ok (.getfield 23, 3) := by decide +kernel
theorem dX10_barred_36 : decode cX10_barred 36 = .ok (.iload_n 1, 1) := by decide +kernel
theorem dX10_barred_37 : decode cX10_barred 37 = .ok (.iload_n 2, 1) := by decide +kernel
theorem dX10_barred_38 : decode cX10_barred 38 = .ok (.invokevirtual 170, 3) := by decide +kernel
theorem dX10_barred_41 : decode cX10_barred 41 = .ok (.ireturn, 1) := by decide +kernel
set_option maxHeartbeats 4000000 in
set_option maxRecDepth 100000 in
/-- ShirtWash.barred (n) -/
theorem z_SW_barred_n (l : Launch) (hst : l.stackTraces = false) (D : va_G) (cI cJ cB cC : ClassId) (w0 : Nat) (tp : Nat) (ts : Int32) (wb : Int32) (ph : Nat) (pd : Int32) (ps : Nat) (cr : Nat) (lr : Nat) (hd : Nat) (pk : Nat) (gs : Nat) (h : Nat) (m1 : Nat) (m2 : Nat) (m3 : Nat) (mc : Int32) (sc : Int32) (tx : Int32) (nr : Int32) (ra : Int32) (ru : Int32) (dy : Int32) (wa : Int32) (se : Int32) (f1 : Nat → Int32) (f2 : Nat → Int32) (f3 : Nat → Int64) (a1 : Int32) (b1 : Int32) (sz : Nat)  : vx_Met l yX10_barred kwX10_barred ({ frames := 6, cells := 1, slots := 6, locals := 90 } : Room) (kPre D (kT cI cJ cB cC) sz [(w0, oX10 tp ts wb h ph pd ps cr lr hd pk gs), (h, oX0 m1 m2 m3 mc sc tx nr ra ru dy wa se none), (m1, kcI cI 50 f1), (m2, kcI cI 72 f2), (m3, kcJ cJ 30 f3)] [.ref w0, .int a1, .int b1]) (va_Qi (fun (r : Int32) (_ : Unit) => Rg r 0 1 ∧ F_z_SW_barred_n (mc : Int32).toInt (sc : Int32).toInt (nr : Int32).toInt (gT f1) f3 (a1 : Int32).toInt (b1 : Int32).toInt = Sum.inl (r : Int32).toInt) (fun (_ : Unit) (t : State) => kB D (kT cI cJ cB cC) (va_A [(w0, oX10 tp ts wb h ph pd ps cr lr hd pk gs), (h, oX0 m1 m2 m3 mc sc tx nr ra ru dy wa se none), (m1, kcI cI 50 f1), (m2, kcI cI 72 f2), (m3, kcJ cJ 30 f3)] sz) [(w0, oX10 tp ts wb h ph pd ps cr lr hd pk gs), (h, oX0 m1 m2 m3 mc sc tx nr ra ru dy wa se none), (m1, kcI cI 50 f1), (m2, kcI cI 72 f2), (m3, kcJ cJ 30 f3)] t) (va_A [(w0, oX10 tp ts wb h ph pd ps cr lr hd pk gs), (h, oX0 m1 m2 m3 mc sc tx nr ra ru dy wa se none), (m1, kcI cI 50 f1), (m2, kcI cI 72 f2), (m3, kcJ cJ 30 f3)] sz)) (vx_X (fun (_ : Unit) => (∃ c9 : Int, F_z_SW_barred_n (mc : Int32).toInt (sc : Int32).toInt (nr : Int32).toInt (gT f1) f3 (a1 : Int32).toInt (b1 : Int32).toInt = Sum.inr (c9, ()))) (fun (E : String) (_ : Unit) (t : State) => (E = "java/lang/IndexOutOfBoundsException" ∧ kXc (F_z_SW_barred_n (mc : Int32).toInt (sc : Int32).toInt (nr : Int32).toInt (gT f1) f3 (a1 : Int32).toInt (b1 : Int32).toInt) = 1) ∧ kB D (kT cI cJ cB cC) (va_A [(w0, oX10 tp ts wb h ph pd ps cr lr hd pk gs), (h, oX0 m1 m2 m3 mc sc tx nr ra ru dy wa se none), (m1, kcI cI 50 f1), (m2, kcI cI 72 f2), (m3, kcJ cJ 30 f3)] sz) [(w0, oX10 tp ts wb h ph pd ps cr lr hd pk gs), (h, oX0 m1 m2 m3 mc sc tx nr ra ru dy wa se none), (m1, kcI cI 50 f1), (m2, kcI cI 72 f2), (m3, kcJ cJ 30 f3)] t) (va_A [(w0, oX10 tp ts wb h ph pd ps cr lr hd pk gs), (h, oX0 m1 m2 m3 mc sc tx nr ra ru dy wa se none), (m1, kcI cI 50 f1), (m2, kcI cI 72 f2), (m3, kcJ cJ 30 f3)] sz)) 1 6 (va_A [(w0, oX10 tp ts wb h ph pd ps cr lr hd pk gs), (h, oX0 m1 m2 m3 mc sc tx nr ra ru dy wa se none), (m1, kcI cI 50 f1), (m2, kcI cI 72 f2), (m3, kcJ cJ 30 f3)] sz) := by
  refine vx_ofW (cc := cX10_barred) (maxL := 3) (ret := (some .boolean)) (by decide) rfl ?_
  intro p e s m args below meth c s₁ B hml hnt hv
  obtain ⟨rfl, hsz, hN, hE, hP, hK, hD0⟩ := hv
  have hx := B.exec
  have hb := B.bytes
  have hr := B.returns
  have hts := fun (w : Cond) (h : w ∈ kG) => atoms_spec (ws := kwX10_barred) B.pre w (List.mem_cons_of_mem _ h)
  have hown : s.vm.findClass RX10 = some m.cls := findClass_of_methodNamed B.named
  subst hsz
  have hD := hD0.self (sz := s.heap.size)
  generalize hAe : va_A [(w0, oX10 tp ts wb h ph pd ps cr lr hd pk gs), (h, oX0 m1 m2 m3 mc sc tx nr ra ru dy wa se none), (m1, kcI cI 50 f1), (m2, kcI cI 72 f2), (m3, kcJ cJ 30 f3)] s.heap.size = A at hD hE ⊢
  have hXd := hE.1
  have hX := hXd.1
  have hC := hE.2.1.1
  have hA : ∀ q : Nat, s.heap.size ≤ q → A q := fun q h => by rw [← hAe]; exact Or.inr h
  have hl := lv_entry ([.ref w0, .int a1, .int b1]) (n := 3) (Nat.le_of_ble_eq_true rfl)
  rw [lg_entry_eq]
  generalize (lg_sl ([.ref w0, .int a1, .int b1]) ++ List.replicate (3 - (lg_sl ([.ref w0, .int a1, .int b1])).length) Slot.unset).toArray = ls at hl ⊢
  have hl : lv_has ls 3 [(0, .ref w0), (1, .int a1), (2, .int b1)] := hl
  obtain ⟨H, hH0⟩ : ∃ H, H = s.heap := ⟨_, rfl⟩
  have hS : va_S A s.heap H [] := by rw [hH0]; exact va_S.rf
  have hP : va_P D vwCl [(w0, oX10 tp ts wb h ph pd ps cr lr hd pk gs), (h, oX0 m1 m2 m3 mc sc tx nr ra ru dy wa se none), (m1, kcI cI 50 f1), (m2, kcI cI 72 f2), (m3, kcJ cJ 30 f3)] H := by rw [hH0]; exact hP
  refine kHeap hH0 ?_
  clear hH0
  refine lv_aload_n hx hb dX10_barred_0 rfl (lv_at hl 0 rfl) ?_
  refine va_get (D := D) (ci := 9) (v := .ref h) (C := RX10) (T := TX10) (N := 12) hx hb hts iG_X10 hown hK hP 0 rfl rfl 3 (by decide) (hts _ w0_20) (fun _ h9 => h9) rfl dX10_barred_1 ?_
  refine lv_iload_n hx hb dX10_barred_4 rfl (lv_at hl 1 rfl) ?_
  refine kpurei (wc := [(h, oX0 m1 m2 m3 mc sc tx nr ra ru dy wa se none), (m1, kcI cI 50 f1), (m2, kcI cI 72 f2), (m3, kcJ cJ 30 f3)]) hP hD hS hA [1, 2, 3, 4] rfl (by decide) (fun hPc hDc hFc => va_runVN (C := RX0) (As := [.int a1]) (rest := []) ⟨hx, hb, hml, hown, hts⟩ (z_Camp_isMan l D cI cJ cB cC h m1 m2 m3 mc sc tx nr ra ru dy wa se none f1 f2 f3 a1 H.size) ⟨va_cnB 1 hts gX10_barred_X0_isMan_n136 rfl rfl rfl (nM_58 hN) (hts _ w0_19) hdX0_isMan ⟨Nat.le_of_ble_eq_true rfl, Nat.le_of_ble_eq_true rfl⟩, hts _ w14_18, hts _ w14_19⟩ ⟨kBlind, va_recv hK hPc (ci := 0) (q0 := 0) rfl rfl, fun U hU hW => ⟨rfl, by rw [hU], hN.warm hW, hE.pass hS hFc hW hU, by rw [hU]; exact hPc, va_K.moved hW.alike hK, hDc⟩⟩ rfl rfl hl.1 rfl (lv_room (Nat.le_of_ble_eq_true rfl)) dX10_barred_5 ⟨Nat.le_of_ble_eq_true rfl, Nat.le_of_ble_eq_true rfl⟩) (fun r1 u H locs hw hP hS => ?_)
  obtain ⟨k2, hw⟩ := hw
  rcases hw with rfl | ⟨rfl, kc3_0, kc3_1⟩
  · skip
    refine lv_if_eq (tgt := 22) hx hb dX10_barred_8 (by decide) (fun _ => ?_) (fun c5 => absurd (by decide) c5)
    obtain ⟨sa, hsa⟩ := hX.2.2.1 ("ShirtWash", 168, "no such man or shirt") (List.mem_of_getElem? (i := 5) rfl)
    have hP9 := hP.sub (ws' := [(w0, oX10 tp ts wb h ph pd ps cr lr hd pk gs), (h, oX0 m1 m2 m3 mc sc tx nr ra ru dy wa se none), (m1, kcI cI 50 f1), (m2, kcI cI 72 f2), (m3, kcJ cJ 30 f3)]) [0, 1, 2, 3, 4] rfl
    have hD9 := hD.sub (ws' := [(w0, oX10 tp ts wb h ph pd ps cr lr hd pk gs), (h, oX0 m1 m2 m3 mc sc tx nr ra ru dy wa se none), (m1, kcI cI 50 f1), (m2, kcI cI 72 f2), (m3, kcJ cJ 30 f3)]) [0, 1, 2, 3, 4] (by decide) rfl
    have hXF : F_z_SW_barred_n mc.toInt sc.toInt nr.toInt (gT f1) f3 a1.toInt b1.toInt = Sum.inr (1, ()) := (kLet_eq (k2).symm (kif_t rfl rfl))
    exact vx_throwS (A := A) (text := "no such man or shirt") (cls := "java/lang/IndexOutOfBoundsException") (names := ["java/lang/RuntimeException", "java/lang/Exception"]) hx hb hst hown (by decide) (by decide) (hts _ w26_10) (hts _ w26_11) hsa (vx_hat (B := Cond.castable "java/lang/IndexOutOfBoundsException" "java/lang/IndexOutOfBoundsException" :: kDec.map Cond.declares) (fun w hw => hts w (kx143_g w hw)) kx143_b (kXB_0 hXd)) kx143_o hX.1 hX.2.1 hS (hl.1.trans hml.symm) dX10_barred_22 dX10_barred_25 dX10_barred_26 dX10_barred_28 dX10_barred_31 (fun x hx => (hnt x hx).elim) (Nat.le_of_ble_eq_true rfl) (Nat.le_of_ble_eq_true rfl) (Nat.le_of_ble_eq_true rfl) (Nat.le_of_ble_eq_true rfl) B.notSynchronized (fun t hvm hz hk => ⟨(), ⟨_, hXF⟩, ⟨⟨rfl, kXc_eq hXF⟩, fun k9 q9 h9 => (hP9 k9 q9 h9).kept (hk q9.1 (hP9 k9 q9 h9).lt), va_K.moved hvm hK, hD9⟩, Nat.le_trans hS.1 hz, fun q h1 h2 => (hk q (Nat.lt_of_lt_of_le h1 hS.1)).trans (hS.2.1 q h1 h2)⟩) hS.2.2 (Nat.le_of_ble_eq_true rfl) (Nat.le_of_ble_eq_true rfl)
  · skip
    refine lv_if_eq (tgt := 22) hx hb dX10_barred_8 (by decide) (fun c15 => absurd c15 (by decide)) (fun _ => ?_)
    refine lv_aload_n hx hb dX10_barred_11 rfl (lv_at hl 0 rfl) ?_
    refine va_get (D := D) (ci := 9) (v := .ref h) (C := RX10) (T := TX10) (N := 12) hx hb hts iG_X10 hown hK hP 0 rfl rfl 3 (by decide) (hts _ w0_20) (fun _ h9 => h9) rfl dX10_barred_12 ?_
    refine lv_iload_n hx hb dX10_barred_15 rfl (lv_at hl 2 rfl) ?_
    refine kpurei (wc := [(h, oX0 m1 m2 m3 mc sc tx nr ra ru dy wa se none), (m1, kcI cI 50 f1), (m2, kcI cI 72 f2), (m3, kcJ cJ 30 f3)]) hP hD hS hA [1, 2, 3, 4] rfl (by decide) (fun hPc hDc hFc => va_runVN (C := RX0) (As := [.int b1]) (rest := []) ⟨hx, hb, hml, hown, hts⟩ (z_Camp_isShirt l D cI cJ cB cC h m1 m2 m3 mc sc tx nr ra ru dy wa se none f1 f2 f3 b1 H.size) ⟨va_cnB 1 hts gX10_barred_X0_isShirt_n157 rfl rfl rfl (nM_61 hN) (hts _ w0_19) hdX0_isShirt ⟨Nat.le_of_ble_eq_true rfl, Nat.le_of_ble_eq_true rfl⟩, hts _ w15_4, hts _ w15_5⟩ ⟨kBlind, va_recv hK hPc (ci := 0) (q0 := 0) rfl rfl, fun U hU hW => ⟨rfl, by rw [hU], hN.warm hW, hE.pass hS hFc hW hU, by rw [hU]; exact hPc, va_K.moved hW.alike hK, hDc⟩⟩ rfl rfl hl.1 rfl (lv_room (Nat.le_of_ble_eq_true rfl)) dX10_barred_16 ⟨Nat.le_of_ble_eq_true rfl, Nat.le_of_ble_eq_true rfl⟩) (fun r16 u H locs hw hP hS => ?_)
    obtain ⟨k17, hw⟩ := hw
    rcases hw with rfl | ⟨rfl, kc18_0, kc18_1⟩
    · skip
      refine lv_if_ne (tgt := 32) hx hb dX10_barred_19 (by decide) (fun c19 => absurd (by decide) c19) (fun _ => ?_)
      obtain ⟨sa, hsa⟩ := hX.2.2.1 ("ShirtWash", 168, "no such man or shirt") (List.mem_of_getElem? (i := 5) rfl)
      have hP9 := hP.sub (ws' := [(w0, oX10 tp ts wb h ph pd ps cr lr hd pk gs), (h, oX0 m1 m2 m3 mc sc tx nr ra ru dy wa se none), (m1, kcI cI 50 f1), (m2, kcI cI 72 f2), (m3, kcJ cJ 30 f3)]) [0, 1, 2, 3, 4] rfl
      have hD9 := hD.sub (ws' := [(w0, oX10 tp ts wb h ph pd ps cr lr hd pk gs), (h, oX0 m1 m2 m3 mc sc tx nr ra ru dy wa se none), (m1, kcI cI 50 f1), (m2, kcI cI 72 f2), (m3, kcJ cJ 30 f3)]) [0, 1, 2, 3, 4] (by decide) rfl
      have hXF : F_z_SW_barred_n mc.toInt sc.toInt nr.toInt (gT f1) f3 a1.toInt b1.toInt = Sum.inr (1, ()) := (kLet_eq (k2).symm (kif_f (by decide) (kLet_eq (k17).symm (kif_t rfl rfl))))
      exact vx_throwS (A := A) (text := "no such man or shirt") (cls := "java/lang/IndexOutOfBoundsException") (names := ["java/lang/RuntimeException", "java/lang/Exception"]) hx hb hst hown (by decide) (by decide) (hts _ w26_10) (hts _ w26_11) hsa (vx_hat (B := Cond.castable "java/lang/IndexOutOfBoundsException" "java/lang/IndexOutOfBoundsException" :: kDec.map Cond.declares) (fun w hw => hts w (kx143_g w hw)) kx143_b (kXB_0 hXd)) kx143_o hX.1 hX.2.1 hS (hl.1.trans hml.symm) dX10_barred_22 dX10_barred_25 dX10_barred_26 dX10_barred_28 dX10_barred_31 (fun x hx => (hnt x hx).elim) (Nat.le_of_ble_eq_true rfl) (Nat.le_of_ble_eq_true rfl) (Nat.le_of_ble_eq_true rfl) (Nat.le_of_ble_eq_true rfl) B.notSynchronized (fun t hvm hz hk => ⟨(), ⟨_, hXF⟩, ⟨⟨rfl, kXc_eq hXF⟩, fun k9 q9 h9 => (hP9 k9 q9 h9).kept (hk q9.1 (hP9 k9 q9 h9).lt), va_K.moved hvm hK, hD9⟩, Nat.le_trans hS.1 hz, fun q h1 h2 => (hk q (Nat.lt_of_lt_of_le h1 hS.1)).trans (hS.2.1 q h1 h2)⟩) hS.2.2 (Nat.le_of_ble_eq_true rfl) (Nat.le_of_ble_eq_true rfl)
    · skip
      refine lv_if_ne (tgt := 32) hx hb dX10_barred_19 (by decide) (fun _ => ?_) (fun c20 => absurd c20 (by decide))
      refine lv_aload_n hx hb dX10_barred_32 rfl (lv_at hl 0 rfl) ?_
      refine va_get (D := D) (ci := 9) (v := .ref h) (C := RX10) (T := TX10) (N := 12) hx hb hts iG_X10 hown hK hP 0 rfl rfl 3 (by decide) (hts _ w0_20) (fun _ h9 => h9) rfl dX10_barred_33 ?_
      refine lv_iload_n hx hb dX10_barred_36 rfl (lv_at hl 1 rfl) ?_
      refine lv_iload_n hx hb dX10_barred_37 rfl (lv_at hl 2 rfl) ?_
      refine kpurei (wc := [(h, oX0 m1 m2 m3 mc sc tx nr ra ru dy wa se none), (m1, kcI cI 50 f1), (m2, kcI cI 72 f2), (m3, kcJ cJ 30 f3)]) hP hD hS hA [1, 2, 3, 4] rfl (by decide) (fun hPc hDc hFc => va_runVN (C := RX0) (As := [.int a1, .int b1]) (rest := []) ⟨hx, hb, hml, hown, hts⟩ (z_Camp_forbids_n l D cI cJ cB cC h m1 m2 m3 mc sc tx nr ra ru dy wa se f1 f2 f3 a1 b1 H.size) ⟨va_cnB 2 hts gX10_barred_X0_forbids_n170 rfl rfl rfl (nM_64 hN) (hts _ w0_19) hdX0_forbids ⟨Nat.le_of_ble_eq_true rfl, Nat.le_of_ble_eq_true rfl⟩, hts _ w28_23, hts _ w29_0⟩ ⟨kBlind, va_recv hK hPc (ci := 0) (q0 := 0) rfl rfl, fun U hU hW => ⟨rfl, by rw [hU], hN.warm hW, hE.pass hS hFc hW hU, by rw [hU]; exact hPc, va_K.moved hW.alike hK, hDc⟩⟩ rfl rfl hl.1 rfl (lv_room (Nat.le_of_ble_eq_true rfl)) dX10_barred_38 ⟨Nat.le_of_ble_eq_true rfl, Nat.le_of_ble_eq_true rfl⟩) (fun r21 u H locs hw hP hS => ?_)
      obtain ⟨k22, hw⟩ := hw
      rcases hw with rfl | rfl
      · skip
        have hP9 := hP.sub (ws' := [(w0, oX10 tp ts wb h ph pd ps cr lr hd pk gs), (h, oX0 m1 m2 m3 mc sc tx nr ra ru dy wa se none), (m1, kcI cI 50 f1), (m2, kcI cI 72 f2), (m3, kcJ cJ 30 f3)]) [0, 1, 2, 3, 4] rfl
        have hD9 := hD.sub (ws' := [(w0, oX10 tp ts wb h ph pd ps cr lr hd pk gs), (h, oX0 m1 m2 m3 mc sc tx nr ra ru dy wa se none), (m1, kcI cI 50 f1), (m2, kcI cI 72 f2), (m3, kcJ cJ 30 f3)]) [0, 1, 2, 3, 4] (by decide) rfl
        refine W.widen (k := 1) (n := 6) (Nat.le_of_ble_eq_true rfl) (Nat.le_of_ble_eq_true rfl) ?_
        refine vx_ret ?_
        exact W.zret (v := 0) hx hb hr (by decide) (fun t ht hW => ⟨⟨0, (), rfl, ⟨(rg_w (rg_lit (n := 0) (by decide)) (by decide)), (kLet_eq (k2).symm (kif_f (by decide) (kLet_eq (k17).symm (kif_f (by decide) (kLet_eq (k22).symm (kif_t rfl rfl))))))⟩, by rw [ht]; exact hP9, va_K.moved hW.alike hK, hD9⟩, hS.F ht⟩) hS.2.2 dX10_barred_41
      · skip
        have hP9 := hP.sub (ws' := [(w0, oX10 tp ts wb h ph pd ps cr lr hd pk gs), (h, oX0 m1 m2 m3 mc sc tx nr ra ru dy wa se none), (m1, kcI cI 50 f1), (m2, kcI cI 72 f2), (m3, kcJ cJ 30 f3)]) [0, 1, 2, 3, 4] rfl
        have hD9 := hD.sub (ws' := [(w0, oX10 tp ts wb h ph pd ps cr lr hd pk gs), (h, oX0 m1 m2 m3 mc sc tx nr ra ru dy wa se none), (m1, kcI cI 50 f1), (m2, kcI cI 72 f2), (m3, kcJ cJ 30 f3)]) [0, 1, 2, 3, 4] (by decide) rfl
        refine W.widen (k := 1) (n := 6) (Nat.le_of_ble_eq_true rfl) (Nat.le_of_ble_eq_true rfl) ?_
        refine vx_ret ?_
        exact W.zret (v := 1) hx hb hr (by decide) (fun t ht hW => ⟨⟨1, (), rfl, ⟨(rg_w (rg_lit (n := 1) (by decide)) (by decide)), (kLet_eq (k2).symm (kif_f (by decide) (kLet_eq (k17).symm (kif_f (by decide) (kLet_eq (k22).symm (kif_f (by decide) rfl))))))⟩, by rw [ht]; exact hP9, va_K.moved hW.alike hK, hD9⟩, hS.F ht⟩) hS.2.2 dX10_barred_41

def kwX10_cost : List Cond := .code yX10_cost cX10_cost 3 (some .int) :: kG
theorem hdX10_cost : yX10_cost.cls ≠ "java/lang/invoke/MethodHandle" ∧ yX10_cost.cls ≠ "java/lang/invoke/VarHandle" ∧ (parseMethodDescriptor yX10_cost.desc).map (fun d => d.parameters.length) = some 2 := by decide +kernel
theorem gX10_cost_X0_isMan_n136 : GoodIn kG (kwX0_isMan) := gK w14_20 gGG
theorem gX10_cost_X0_isShirt_n157 : GoodIn kG (kwX0_isShirt) := gK w15_6 gGG
theorem gX10_cost_X0_priceOf_n174 : GoodIn kG (kwX0_priceOf) := gK w31_8 gGG
theorem dX10_cost_0 : decode cX10_cost 0 = .ok (.aload_n 0, 1) := by decide +kernel
theorem dX10_cost_1 : decode cX10_cost 1 = .ok (.getfield 23, 3) := by decide +kernel
theorem dX10_cost_4 : decode cX10_cost 4 = .ok (.iload_n 1, 1) := by decide +kernel
theorem dX10_cost_5 : decode cX10_cost 5 = .ok (.invokevirtual 136, 3) := by decide +kernel
theorem dX10_cost_8 : decode cX10_cost 8 = .ok (.ifCond .eq 14, 3) := by decide +kernel
theorem dX10_cost_11 : decode cX10_cost 11 = .ok (.aload_n 0, 1) := by decide +kernel
theorem dX10_cost_12 : decode cX10_cost 12 = .ok (.getfield 23, 3) := by decide +kernel
theorem dX10_cost_15 : decode cX10_cost 15 = .ok (.iload_n 2, 1) := by decide +kernel
theorem dX10_cost_16 : decode cX10_cost 16 = .ok (.invokevirtual 157, 3) := by decide +kernel
theorem dX10_cost_19 : decode cX10_cost 19 = .ok (.ifCond .ne 13, 3) := by decide +kernel
theorem dX10_cost_22 : decode cX10_cost 22 = .ok (.new 139, 3) := by decide +kernel
theorem dX10_cost_25 : decode cX10_cost 25 = .ok (.dup, 1) := by decide +kernel
theorem dX10_cost_26 : decode cX10_cost 26 = .ok (.ldc 168, 2) := by decide +kernel
theorem dX10_cost_28 : decode cX10_cost 28 = .ok (.invokespecial 143, 3) := by decide +kernel
theorem dX10_cost_31 : decode cX10_cost 31 = .ok (.athrow, 1) := by decide +kernel
theorem dX10_cost_32 : decode cX10_cost 32 = .ok (.aload_n 0, 1) := by decide +kernel
theorem dX10_cost_33 : decode cX10_cost 33 = .ok (.getfield 23, 3) := by decide +kernel
theorem dX10_cost_36 : decode cX10_cost 36 = .ok (.iload_n 1, 1) := by decide +kernel
theorem dX10_cost_37 : decode cX10_cost 37 = .ok (.iload_n 2, 1) := by decide +kernel
theorem dX10_cost_38 : decode cX10_cost 38 = .ok (.invokevirtual 174, 3) := by decide +kernel
theorem dX10_cost_41 : decode cX10_cost 41 = .ok (.ireturn, 1) := by decide +kernel
set_option maxHeartbeats 4000000 in
set_option maxRecDepth 100000 in
/-- ShirtWash.cost (n) -/
theorem z_SW_cost_n (l : Launch) (hst : l.stackTraces = false) (D : va_G) (cI cJ cB cC : ClassId) (w0 : Nat) (tp : Nat) (ts : Int32) (wb : Int32) (ph : Nat) (pd : Int32) (ps : Nat) (cr : Nat) (lr : Nat) (hd : Nat) (pk : Nat) (gs : Nat) (h : Nat) (m1 : Nat) (m2 : Nat) (m3 : Nat) (mc : Int32) (sc : Int32) (tx : Int32) (nr : Int32) (ra : Int32) (ru : Int32) (dy : Int32) (wa : Int32) (se : Int32) (f1 : Nat → Int32) (f2 : Nat → Int32) (f3 : Nat → Int64) (a1 : Int32) (b1 : Int32) (sz : Nat)  : vx_Met l yX10_cost kwX10_cost ({ frames := 6, cells := 1, slots := 6, locals := 82 } : Room) (kPre D (kT cI cJ cB cC) sz [(w0, oX10 tp ts wb h ph pd ps cr lr hd pk gs), (h, oX0 m1 m2 m3 mc sc tx nr ra ru dy wa se none), (m1, kcI cI 50 f1), (m2, kcI cI 72 f2), (m3, kcJ cJ 30 f3)] [.ref w0, .int a1, .int b1]) (va_Qi (fun (r : Int32) (_ : Unit) => Rg r 0 0 ∧ F_z_SW_cost_n (mc : Int32).toInt (sc : Int32).toInt (a1 : Int32).toInt (b1 : Int32).toInt = Sum.inl (r : Int32).toInt) (fun (_ : Unit) (t : State) => kB D (kT cI cJ cB cC) (va_A [(w0, oX10 tp ts wb h ph pd ps cr lr hd pk gs), (h, oX0 m1 m2 m3 mc sc tx nr ra ru dy wa se none), (m1, kcI cI 50 f1), (m2, kcI cI 72 f2), (m3, kcJ cJ 30 f3)] sz) [(w0, oX10 tp ts wb h ph pd ps cr lr hd pk gs), (h, oX0 m1 m2 m3 mc sc tx nr ra ru dy wa se none), (m1, kcI cI 50 f1), (m2, kcI cI 72 f2), (m3, kcJ cJ 30 f3)] t) (va_A [(w0, oX10 tp ts wb h ph pd ps cr lr hd pk gs), (h, oX0 m1 m2 m3 mc sc tx nr ra ru dy wa se none), (m1, kcI cI 50 f1), (m2, kcI cI 72 f2), (m3, kcJ cJ 30 f3)] sz)) (vx_X (fun (_ : Unit) => (∃ c9 : Int, F_z_SW_cost_n (mc : Int32).toInt (sc : Int32).toInt (a1 : Int32).toInt (b1 : Int32).toInt = Sum.inr (c9, ()))) (fun (E : String) (_ : Unit) (t : State) => (E = "java/lang/IndexOutOfBoundsException" ∧ kXc (F_z_SW_cost_n (mc : Int32).toInt (sc : Int32).toInt (a1 : Int32).toInt (b1 : Int32).toInt) = 1) ∧ kB D (kT cI cJ cB cC) (va_A [(w0, oX10 tp ts wb h ph pd ps cr lr hd pk gs), (h, oX0 m1 m2 m3 mc sc tx nr ra ru dy wa se none), (m1, kcI cI 50 f1), (m2, kcI cI 72 f2), (m3, kcJ cJ 30 f3)] sz) [(w0, oX10 tp ts wb h ph pd ps cr lr hd pk gs), (h, oX0 m1 m2 m3 mc sc tx nr ra ru dy wa se none), (m1, kcI cI 50 f1), (m2, kcI cI 72 f2), (m3, kcJ cJ 30 f3)] t) (va_A [(w0, oX10 tp ts wb h ph pd ps cr lr hd pk gs), (h, oX0 m1 m2 m3 mc sc tx nr ra ru dy wa se none), (m1, kcI cI 50 f1), (m2, kcI cI 72 f2), (m3, kcJ cJ 30 f3)] sz)) 1 6 (va_A [(w0, oX10 tp ts wb h ph pd ps cr lr hd pk gs), (h, oX0 m1 m2 m3 mc sc tx nr ra ru dy wa se none), (m1, kcI cI 50 f1), (m2, kcI cI 72 f2), (m3, kcJ cJ 30 f3)] sz) := by
  refine vx_ofW (cc := cX10_cost) (maxL := 3) (ret := (some .int)) (by decide) rfl ?_
  intro p e s m args below meth c s₁ B hml hnt hv
  obtain ⟨rfl, hsz, hN, hE, hP, hK, hD0⟩ := hv
  have hx := B.exec
  have hb := B.bytes
  have hr := B.returns
  have hts := fun (w : Cond) (h : w ∈ kG) => atoms_spec (ws := kwX10_cost) B.pre w (List.mem_cons_of_mem _ h)
  have hown : s.vm.findClass RX10 = some m.cls := findClass_of_methodNamed B.named
  subst hsz
  have hD := hD0.self (sz := s.heap.size)
  generalize hAe : va_A [(w0, oX10 tp ts wb h ph pd ps cr lr hd pk gs), (h, oX0 m1 m2 m3 mc sc tx nr ra ru dy wa se none), (m1, kcI cI 50 f1), (m2, kcI cI 72 f2), (m3, kcJ cJ 30 f3)] s.heap.size = A at hD hE ⊢
  have hXd := hE.1
  have hX := hXd.1
  have hC := hE.2.1.1
  have hA : ∀ q : Nat, s.heap.size ≤ q → A q := fun q h => by rw [← hAe]; exact Or.inr h
  have hl := lv_entry ([.ref w0, .int a1, .int b1]) (n := 3) (Nat.le_of_ble_eq_true rfl)
  rw [lg_entry_eq]
  generalize (lg_sl ([.ref w0, .int a1, .int b1]) ++ List.replicate (3 - (lg_sl ([.ref w0, .int a1, .int b1])).length) Slot.unset).toArray = ls at hl ⊢
  have hl : lv_has ls 3 [(0, .ref w0), (1, .int a1), (2, .int b1)] := hl
  obtain ⟨H, hH0⟩ : ∃ H, H = s.heap := ⟨_, rfl⟩
  have hS : va_S A s.heap H [] := by rw [hH0]; exact va_S.rf
  have hP : va_P D vwCl [(w0, oX10 tp ts wb h ph pd ps cr lr hd pk gs), (h, oX0 m1 m2 m3 mc sc tx nr ra ru dy wa se none), (m1, kcI cI 50 f1), (m2, kcI cI 72 f2), (m3, kcJ cJ 30 f3)] H := by rw [hH0]; exact hP
  refine kHeap hH0 ?_
  clear hH0
  refine lv_aload_n hx hb dX10_cost_0 rfl (lv_at hl 0 rfl) ?_
  refine va_get (D := D) (ci := 9) (v := .ref h) (C := RX10) (T := TX10) (N := 12) hx hb hts iG_X10 hown hK hP 0 rfl rfl 3 (by decide) (hts _ w0_20) (fun _ h9 => h9) rfl dX10_cost_1 ?_
  refine lv_iload_n hx hb dX10_cost_4 rfl (lv_at hl 1 rfl) ?_
  refine kpurei (wc := [(h, oX0 m1 m2 m3 mc sc tx nr ra ru dy wa se none), (m1, kcI cI 50 f1), (m2, kcI cI 72 f2), (m3, kcJ cJ 30 f3)]) hP hD hS hA [1, 2, 3, 4] rfl (by decide) (fun hPc hDc hFc => va_runVN (C := RX0) (As := [.int a1]) (rest := []) ⟨hx, hb, hml, hown, hts⟩ (z_Camp_isMan l D cI cJ cB cC h m1 m2 m3 mc sc tx nr ra ru dy wa se none f1 f2 f3 a1 H.size) ⟨va_cnB 1 hts gX10_cost_X0_isMan_n136 rfl rfl rfl (nM_58 hN) (hts _ w0_19) hdX0_isMan ⟨Nat.le_of_ble_eq_true rfl, Nat.le_of_ble_eq_true rfl⟩, hts _ w14_18, hts _ w14_19⟩ ⟨kBlind, va_recv hK hPc (ci := 0) (q0 := 0) rfl rfl, fun U hU hW => ⟨rfl, by rw [hU], hN.warm hW, hE.pass hS hFc hW hU, by rw [hU]; exact hPc, va_K.moved hW.alike hK, hDc⟩⟩ rfl rfl hl.1 rfl (lv_room (Nat.le_of_ble_eq_true rfl)) dX10_cost_5 ⟨Nat.le_of_ble_eq_true rfl, Nat.le_of_ble_eq_true rfl⟩) (fun r1 u H locs hw hP hS => ?_)
  obtain ⟨k2, hw⟩ := hw
  rcases hw with rfl | ⟨rfl, kc3_0, kc3_1⟩
  · skip
    refine lv_if_eq (tgt := 22) hx hb dX10_cost_8 (by decide) (fun _ => ?_) (fun c5 => absurd (by decide) c5)
    obtain ⟨sa, hsa⟩ := hX.2.2.1 ("ShirtWash", 168, "no such man or shirt") (List.mem_of_getElem? (i := 5) rfl)
    have hP9 := hP.sub (ws' := [(w0, oX10 tp ts wb h ph pd ps cr lr hd pk gs), (h, oX0 m1 m2 m3 mc sc tx nr ra ru dy wa se none), (m1, kcI cI 50 f1), (m2, kcI cI 72 f2), (m3, kcJ cJ 30 f3)]) [0, 1, 2, 3, 4] rfl
    have hD9 := hD.sub (ws' := [(w0, oX10 tp ts wb h ph pd ps cr lr hd pk gs), (h, oX0 m1 m2 m3 mc sc tx nr ra ru dy wa se none), (m1, kcI cI 50 f1), (m2, kcI cI 72 f2), (m3, kcJ cJ 30 f3)]) [0, 1, 2, 3, 4] (by decide) rfl
    have hXF : F_z_SW_cost_n mc.toInt sc.toInt a1.toInt b1.toInt = Sum.inr (1, ()) := (kLet_eq (k2).symm (kif_t rfl rfl))
    exact vx_throwS (A := A) (text := "no such man or shirt") (cls := "java/lang/IndexOutOfBoundsException") (names := ["java/lang/RuntimeException", "java/lang/Exception"]) hx hb hst hown (by decide) (by decide) (hts _ w26_10) (hts _ w26_11) hsa (vx_hat (B := Cond.castable "java/lang/IndexOutOfBoundsException" "java/lang/IndexOutOfBoundsException" :: kDec.map Cond.declares) (fun w hw => hts w (kx143_g w hw)) kx143_b (kXB_0 hXd)) kx143_o hX.1 hX.2.1 hS (hl.1.trans hml.symm) dX10_cost_22 dX10_cost_25 dX10_cost_26 dX10_cost_28 dX10_cost_31 (fun x hx => (hnt x hx).elim) (Nat.le_of_ble_eq_true rfl) (Nat.le_of_ble_eq_true rfl) (Nat.le_of_ble_eq_true rfl) (Nat.le_of_ble_eq_true rfl) B.notSynchronized (fun t hvm hz hk => ⟨(), ⟨_, hXF⟩, ⟨⟨rfl, kXc_eq hXF⟩, fun k9 q9 h9 => (hP9 k9 q9 h9).kept (hk q9.1 (hP9 k9 q9 h9).lt), va_K.moved hvm hK, hD9⟩, Nat.le_trans hS.1 hz, fun q h1 h2 => (hk q (Nat.lt_of_lt_of_le h1 hS.1)).trans (hS.2.1 q h1 h2)⟩) hS.2.2 (Nat.le_of_ble_eq_true rfl) (Nat.le_of_ble_eq_true rfl)
  · skip
    refine lv_if_eq (tgt := 22) hx hb dX10_cost_8 (by decide) (fun c15 => absurd c15 (by decide)) (fun _ => ?_)
    refine lv_aload_n hx hb dX10_cost_11 rfl (lv_at hl 0 rfl) ?_
    refine va_get (D := D) (ci := 9) (v := .ref h) (C := RX10) (T := TX10) (N := 12) hx hb hts iG_X10 hown hK hP 0 rfl rfl 3 (by decide) (hts _ w0_20) (fun _ h9 => h9) rfl dX10_cost_12 ?_
    refine lv_iload_n hx hb dX10_cost_15 rfl (lv_at hl 2 rfl) ?_
    refine kpurei (wc := [(h, oX0 m1 m2 m3 mc sc tx nr ra ru dy wa se none), (m1, kcI cI 50 f1), (m2, kcI cI 72 f2), (m3, kcJ cJ 30 f3)]) hP hD hS hA [1, 2, 3, 4] rfl (by decide) (fun hPc hDc hFc => va_runVN (C := RX0) (As := [.int b1]) (rest := []) ⟨hx, hb, hml, hown, hts⟩ (z_Camp_isShirt l D cI cJ cB cC h m1 m2 m3 mc sc tx nr ra ru dy wa se none f1 f2 f3 b1 H.size) ⟨va_cnB 1 hts gX10_cost_X0_isShirt_n157 rfl rfl rfl (nM_61 hN) (hts _ w0_19) hdX0_isShirt ⟨Nat.le_of_ble_eq_true rfl, Nat.le_of_ble_eq_true rfl⟩, hts _ w15_4, hts _ w15_5⟩ ⟨kBlind, va_recv hK hPc (ci := 0) (q0 := 0) rfl rfl, fun U hU hW => ⟨rfl, by rw [hU], hN.warm hW, hE.pass hS hFc hW hU, by rw [hU]; exact hPc, va_K.moved hW.alike hK, hDc⟩⟩ rfl rfl hl.1 rfl (lv_room (Nat.le_of_ble_eq_true rfl)) dX10_cost_16 ⟨Nat.le_of_ble_eq_true rfl, Nat.le_of_ble_eq_true rfl⟩) (fun r16 u H locs hw hP hS => ?_)
    obtain ⟨k17, hw⟩ := hw
    rcases hw with rfl | ⟨rfl, kc18_0, kc18_1⟩
    · skip
      refine lv_if_ne (tgt := 32) hx hb dX10_cost_19 (by decide) (fun c19 => absurd (by decide) c19) (fun _ => ?_)
      obtain ⟨sa, hsa⟩ := hX.2.2.1 ("ShirtWash", 168, "no such man or shirt") (List.mem_of_getElem? (i := 5) rfl)
      have hP9 := hP.sub (ws' := [(w0, oX10 tp ts wb h ph pd ps cr lr hd pk gs), (h, oX0 m1 m2 m3 mc sc tx nr ra ru dy wa se none), (m1, kcI cI 50 f1), (m2, kcI cI 72 f2), (m3, kcJ cJ 30 f3)]) [0, 1, 2, 3, 4] rfl
      have hD9 := hD.sub (ws' := [(w0, oX10 tp ts wb h ph pd ps cr lr hd pk gs), (h, oX0 m1 m2 m3 mc sc tx nr ra ru dy wa se none), (m1, kcI cI 50 f1), (m2, kcI cI 72 f2), (m3, kcJ cJ 30 f3)]) [0, 1, 2, 3, 4] (by decide) rfl
      have hXF : F_z_SW_cost_n mc.toInt sc.toInt a1.toInt b1.toInt = Sum.inr (1, ()) := (kLet_eq (k2).symm (kif_f (by decide) (kLet_eq (k17).symm (kif_t rfl rfl))))
      exact vx_throwS (A := A) (text := "no such man or shirt") (cls := "java/lang/IndexOutOfBoundsException") (names := ["java/lang/RuntimeException", "java/lang/Exception"]) hx hb hst hown (by decide) (by decide) (hts _ w26_10) (hts _ w26_11) hsa (vx_hat (B := Cond.castable "java/lang/IndexOutOfBoundsException" "java/lang/IndexOutOfBoundsException" :: kDec.map Cond.declares) (fun w hw => hts w (kx143_g w hw)) kx143_b (kXB_0 hXd)) kx143_o hX.1 hX.2.1 hS (hl.1.trans hml.symm) dX10_cost_22 dX10_cost_25 dX10_cost_26 dX10_cost_28 dX10_cost_31 (fun x hx => (hnt x hx).elim) (Nat.le_of_ble_eq_true rfl) (Nat.le_of_ble_eq_true rfl) (Nat.le_of_ble_eq_true rfl) (Nat.le_of_ble_eq_true rfl) B.notSynchronized (fun t hvm hz hk => ⟨(), ⟨_, hXF⟩, ⟨⟨rfl, kXc_eq hXF⟩, fun k9 q9 h9 => (hP9 k9 q9 h9).kept (hk q9.1 (hP9 k9 q9 h9).lt), va_K.moved hvm hK, hD9⟩, Nat.le_trans hS.1 hz, fun q h1 h2 => (hk q (Nat.lt_of_lt_of_le h1 hS.1)).trans (hS.2.1 q h1 h2)⟩) hS.2.2 (Nat.le_of_ble_eq_true rfl) (Nat.le_of_ble_eq_true rfl)
    · skip
      refine lv_if_ne (tgt := 32) hx hb dX10_cost_19 (by decide) (fun _ => ?_) (fun c20 => absurd c20 (by decide))
      refine lv_aload_n hx hb dX10_cost_32 rfl (lv_at hl 0 rfl) ?_
      refine va_get (D := D) (ci := 9) (v := .ref h) (C := RX10) (T := TX10) (N := 12) hx hb hts iG_X10 hown hK hP 0 rfl rfl 3 (by decide) (hts _ w0_20) (fun _ h9 => h9) rfl dX10_cost_33 ?_
      refine lv_iload_n hx hb dX10_cost_36 rfl (lv_at hl 1 rfl) ?_
      refine lv_iload_n hx hb dX10_cost_37 rfl (lv_at hl 2 rfl) ?_
      refine kpurei (wc := [(h, oX0 m1 m2 m3 mc sc tx nr ra ru dy wa se none), (m1, kcI cI 50 f1), (m2, kcI cI 72 f2), (m3, kcJ cJ 30 f3)]) hP hD hS hA [1, 2, 3, 4] rfl (by decide) (fun hPc hDc hFc => va_runVN (C := RX0) (As := [.int a1, .int b1]) (rest := []) ⟨hx, hb, hml, hown, hts⟩ (z_Camp_priceOf_n l D cI cJ cB cC h m1 m2 m3 mc sc tx nr ra ru dy wa se f1 f2 f3 a1 b1 H.size) ⟨va_cnB 2 hts gX10_cost_X0_priceOf_n174 rfl rfl rfl (nM_65 hN) (hts _ w0_19) hdX0_priceOf ⟨Nat.le_of_ble_eq_true rfl, Nat.le_of_ble_eq_true rfl⟩, hts _ w31_6, hts _ w31_7⟩ ⟨kBlind, va_recv hK hPc (ci := 0) (q0 := 0) rfl rfl, fun U hU hW => ⟨rfl, by rw [hU], hN.warm hW, hE.pass hS hFc hW hU, by rw [hU]; exact hPc, va_K.moved hW.alike hK, hDc⟩⟩ rfl rfl hl.1 rfl (lv_room (Nat.le_of_ble_eq_true rfl)) dX10_cost_38 ⟨Nat.le_of_ble_eq_true rfl, Nat.le_of_ble_eq_true rfl⟩) (fun r21 u H locs hw hP hS => ?_)
      obtain ⟨k22, k23⟩ := hw
      have hP9 := hP.sub (ws' := [(w0, oX10 tp ts wb h ph pd ps cr lr hd pk gs), (h, oX0 m1 m2 m3 mc sc tx nr ra ru dy wa se none), (m1, kcI cI 50 f1), (m2, kcI cI 72 f2), (m3, kcJ cJ 30 f3)]) [0, 1, 2, 3, 4] rfl
      have hD9 := hD.sub (ws' := [(w0, oX10 tp ts wb h ph pd ps cr lr hd pk gs), (h, oX0 m1 m2 m3 mc sc tx nr ra ru dy wa se none), (m1, kcI cI 50 f1), (m2, kcI cI 72 f2), (m3, kcJ cJ 30 f3)]) [0, 1, 2, 3, 4] (by decide) rfl
      refine W.widen (k := 1) (n := 6) (Nat.le_of_ble_eq_true rfl) (Nat.le_of_ble_eq_true rfl) ?_
      refine vx_ret ?_
      exact W.iret (v := r21) hx hb hr (fun t ht hW => ⟨⟨r21, (), rfl, ⟨k22, (kLet_eq (k2).symm (kif_f (by decide) (kLet_eq (k17).symm (kif_f (by decide) (kLet_eq (k23).symm rfl)))))⟩, by rw [ht]; exact hP9, va_K.moved hW.alike hK, hD9⟩, hS.F ht⟩) hS.2.2 dX10_cost_41

def kwX10_plan : List Cond := .code yX10_plan cX10_plan 3 (some .int) :: kG
theorem hdX10_plan : yX10_plan.cls ≠ "java/lang/invoke/MethodHandle" ∧ yX10_plan.cls ≠ "java/lang/invoke/VarHandle" ∧ (parseMethodDescriptor yX10_plan.desc).map (fun d => d.parameters.length) = some 2 := by decide +kernel
theorem gX10_plan_X0_isMan_n136 : GoodIn kG (kwX0_isMan) := gK w14_20 gGG
theorem gX10_plan_X3_choose_n241 : GoodIn kG (kwX3_choose) := gK w41_2 gGG
theorem gX10_plan_X3_look_n234 : GoodIn kG (kwX3_look) := gK w38_22 gGG
theorem gX10_plan_X3_shirtFor_n245 : GoodIn kG (kwX3_shirtFor) := gK w42_3 gGG
theorem dX10_plan_0 : decode cX10_plan 0 = .ok (.aload_n 0, 1) := by decide +kernel
theorem dX10_plan_1 : decode cX10_plan 1 = .ok (.getfield 23, 3) := by decide +kernel
theorem dX10_plan_4 : decode cX10_plan 4 = .ok (.iload_n 1, 1) := by decide +kernel
theorem dX10_plan_5 : decode cX10_plan 5 = .ok (.invokevirtual 136, 3) := by decide +kernel
theorem dX10_plan_8 : decode cX10_plan 8 = .ok (.ifCond .ne 13, 3) := by decide +kernel
theorem dX10_plan_11 : decode cX10_plan 11 = .ok (.new 139, 3) := by decide +kernel
theorem dX10_plan_14 : decode cX10_plan 14 = .ok (.dup, 1) := by decide +kernel
theorem dX10_plan_15 : decode cX10_plan 15 = .ok (.ldc 141, 2) := by decide +kernel
theorem dX10_plan_17 : decode cX10_plan 17 = .ok (.invokespecial 143, 3) := by decide +kernel
theorem dX10_plan_20 : decode cX10_plan 20 = .ok (.athrow, 1) := by decide +kernel
theorem dX10_plan_21 : decode cX10_plan 21 = .ok (.aload_n 0, 1) := by decide +kernel
theorem dX10_plan_22 : decode cX10_plan 22 = .ok (.getfield 58, 3) := by decide +kernel
theorem dX10_plan_25 : decode cX10_plan 25 = .ok (.aload_n 0, 1) := by decide +kernel
theorem dX10_plan_26 : decode cX10_plan 26 = .ok (.getfield 23, 3) := by decide +kernel
theorem dX10_plan_29 : decode cX10_plan 29 = .ok (.invokevirtual 234, 3) := by decide +kernel
theorem dX10_plan_32 : decode cX10_plan 32 = .ok (.aload_n 0, 1) := by decide +kernel
theorem dX10_plan_33 : decode cX10_plan 33 = .ok (.getfield 58, 3) := by decide +kernel
theorem dX10_plan_36 : decode cX10_plan 36 = .ok (.iload_n 2, 1) := by decide +kernel
theorem dX10_plan_37 : decode cX10_plan 37 = .ok (.invokevirtual 241, 3) := by decide +kernel
theorem dX10_plan_40 : decode cX10_plan 40 = .ok (.ifCond .eq 14, 3) := by decide +kernel
theorem dX10_plan_43 : decode cX10_plan 43 = .ok (.aload_n 0, 1) := by decide +kernel
theorem dX10_plan_44 : decode cX10_plan 44 = .ok (.getfield 58, 3) := by decide +kernel
theorem dX10_plan_47 : decode cX10_plan 47 = .ok (.iload_n 1, 1) := by decide +kernel
theorem dX10_plan_48 : decode cX10_plan 48 = .ok (.invokevirtual 245, 3) := by decide +kernel
theorem dX10_plan_51 : decode cX10_plan 51 = .ok (.goto 4, 3) := by decide +kernel
theorem dX10_plan_54 : decode cX10_plan 54 = .ok (.iconst (-1), 1) := by decide +kernel
theorem dX10_plan_55 : decode cX10_plan 55 = .ok (.ireturn, 1) := by decide +kernel
set_option maxHeartbeats 4000000 in
set_option maxRecDepth 100000 in
/-- ShirtWash.plan (n) -/
theorem z_SW_plan_n (l : Launch) (hst : l.stackTraces = false) (D : va_G) (cI cJ cB cC : ClassId) (w0 : Nat) (tp : Nat) (ts : Int32) (wb : Int32) (ph : Nat) (pd : Int32) (ps : Nat) (cr : Nat) (lr : Nat) (hd : Nat) (pk : Nat) (gs : Nat) (h : Nat) (m1 : Nat) (m2 : Nat) (m3 : Nat) (mc : Int32) (sc : Int32) (tx : Int32) (nr : Int32) (ra : Int32) (ru : Int32) (dy : Int32) (wa : Int32) (se : Int32) (f1 : Nat → Int32) (f2 : Nat → Int32) (f3 : Nat → Int64) (t0 : Nat) (b0 : Nat) (c0 : Nat) (n0 : Nat) (p0 : Nat) (s0 : Nat) (bc : Int32) (cc_ : Int32) (et : Nat → Int64) (eb : Nat → Int32) (ec : Nat → Int32) (en : Nat → Int32) (ep : Nat → Int32) (es : Nat → Int32) (a1 : Int32) (b1 : Int32) (sz : Nat) (H_b1 : Rg b1 0 1) : vx_Met l yX10_plan kwX10_plan ({ frames := 6, cells := 1, slots := 6, locals := 137 } : Room) (kPre D (kT cI cJ cB cC) sz [(w0, oX10 tp ts wb h ph pd ps cr lr hd pk gs), (h, oX0 m1 m2 m3 mc sc tx nr ra ru dy wa se none), (m1, kcI cI 50 f1), (m2, kcI cI 72 f2), (m3, kcJ cJ 30 f3), (hd, oX3 t0 b0 c0 n0 p0 s0 bc cc_), (t0, kcJ cJ 4096 et), (b0, kcI cI 10 eb), (c0, kcI cI 12 ec), (n0, kcI cI 10 en), (p0, kcI cI 120 ep), (s0, kcI cI 10 es)] [.ref w0, .int a1, .int b1]) (va_Qi (fun (r : Int32) (uu : Int32 × Int32 × (Nat → Int64) × (Nat → Int32) × (Nat → Int32) × (Nat → Int32) × (Nat → Int32) × (Nat → Int32)) => match uu with | (n0_, n1_, f2_, f3_, f4_, f5_, f6_, f7_) => Rg n0_ 0 10 ∧ Rg n1_ 0 12 ∧ F_z_SW_plan_n (mc : Int32).toInt (sc : Int32).toInt (nr : Int32).toInt (gT f1) (gT f2) f3 et (gT eb) (gT ec) (gT en) (gT ep) (gT es) (a1 : Int32).toInt (b1 : Int32).toInt = Sum.inl ((r : Int32).toInt, (n0_ : Int32).toInt, (n1_ : Int32).toInt, f2_, (gT f3_), (gT f4_), (gT f5_), (gT f6_), (gT f7_))) (fun (uu : Int32 × Int32 × (Nat → Int64) × (Nat → Int32) × (Nat → Int32) × (Nat → Int32) × (Nat → Int32) × (Nat → Int32)) (t : State) => match uu with | (n0_, n1_, f2_, f3_, f4_, f5_, f6_, f7_) => kB D (kT cI cJ cB cC) (va_A [(w0, oX10 tp ts wb h ph pd ps cr lr hd pk gs), (h, oX0 m1 m2 m3 mc sc tx nr ra ru dy wa se none), (m1, kcI cI 50 f1), (m2, kcI cI 72 f2), (m3, kcJ cJ 30 f3), (hd, oX3 t0 b0 c0 n0 p0 s0 bc cc_), (t0, kcJ cJ 4096 et), (b0, kcI cI 10 eb), (c0, kcI cI 12 ec), (n0, kcI cI 10 en), (p0, kcI cI 120 ep), (s0, kcI cI 10 es)] sz) [(w0, oX10 tp ts wb h ph pd ps cr lr hd pk gs), (h, oX0 m1 m2 m3 mc sc tx nr ra ru dy wa se none), (m1, kcI cI 50 f1), (m2, kcI cI 72 f2), (m3, kcJ cJ 30 f3), (hd, oX3 t0 b0 c0 n0 p0 s0 n0_ n1_), (t0, kcJ cJ 4096 f2_), (b0, kcI cI 10 f3_), (c0, kcI cI 12 f4_), (n0, kcI cI 10 f5_), (p0, kcI cI 120 f6_), (s0, kcI cI 10 f7_)] t) (va_A [(w0, oX10 tp ts wb h ph pd ps cr lr hd pk gs), (h, oX0 m1 m2 m3 mc sc tx nr ra ru dy wa se none), (m1, kcI cI 50 f1), (m2, kcI cI 72 f2), (m3, kcJ cJ 30 f3), (hd, oX3 t0 b0 c0 n0 p0 s0 bc cc_), (t0, kcJ cJ 4096 et), (b0, kcI cI 10 eb), (c0, kcI cI 12 ec), (n0, kcI cI 10 en), (p0, kcI cI 120 ep), (s0, kcI cI 10 es)] sz)) (vx_X (fun (_ : Unit) => (∃ c9 : Int, F_z_SW_plan_n (mc : Int32).toInt (sc : Int32).toInt (nr : Int32).toInt (gT f1) (gT f2) f3 et (gT eb) (gT ec) (gT en) (gT ep) (gT es) (a1 : Int32).toInt (b1 : Int32).toInt = Sum.inr (c9, ()))) (fun (E : String) (_ : Unit) (t : State) => (E = "java/lang/IndexOutOfBoundsException" ∧ kXc (F_z_SW_plan_n (mc : Int32).toInt (sc : Int32).toInt (nr : Int32).toInt (gT f1) (gT f2) f3 et (gT eb) (gT ec) (gT en) (gT ep) (gT es) (a1 : Int32).toInt (b1 : Int32).toInt) = 1) ∧ kB D (kT cI cJ cB cC) (va_A [(w0, oX10 tp ts wb h ph pd ps cr lr hd pk gs), (h, oX0 m1 m2 m3 mc sc tx nr ra ru dy wa se none), (m1, kcI cI 50 f1), (m2, kcI cI 72 f2), (m3, kcJ cJ 30 f3), (hd, oX3 t0 b0 c0 n0 p0 s0 bc cc_), (t0, kcJ cJ 4096 et), (b0, kcI cI 10 eb), (c0, kcI cI 12 ec), (n0, kcI cI 10 en), (p0, kcI cI 120 ep), (s0, kcI cI 10 es)] sz) [(w0, oX10 tp ts wb h ph pd ps cr lr hd pk gs), (h, oX0 m1 m2 m3 mc sc tx nr ra ru dy wa se none), (m1, kcI cI 50 f1), (m2, kcI cI 72 f2), (m3, kcJ cJ 30 f3), (hd, oX3 t0 b0 c0 n0 p0 s0 bc cc_), (t0, kcJ cJ 4096 et), (b0, kcI cI 10 eb), (c0, kcI cI 12 ec), (n0, kcI cI 10 en), (p0, kcI cI 120 ep), (s0, kcI cI 10 es)] t) (va_A [(w0, oX10 tp ts wb h ph pd ps cr lr hd pk gs), (h, oX0 m1 m2 m3 mc sc tx nr ra ru dy wa se none), (m1, kcI cI 50 f1), (m2, kcI cI 72 f2), (m3, kcJ cJ 30 f3), (hd, oX3 t0 b0 c0 n0 p0 s0 bc cc_), (t0, kcJ cJ 4096 et), (b0, kcI cI 10 eb), (c0, kcI cI 12 ec), (n0, kcI cI 10 en), (p0, kcI cI 120 ep), (s0, kcI cI 10 es)] sz)) 1 6 (va_A [(w0, oX10 tp ts wb h ph pd ps cr lr hd pk gs), (h, oX0 m1 m2 m3 mc sc tx nr ra ru dy wa se none), (m1, kcI cI 50 f1), (m2, kcI cI 72 f2), (m3, kcJ cJ 30 f3), (hd, oX3 t0 b0 c0 n0 p0 s0 bc cc_), (t0, kcJ cJ 4096 et), (b0, kcI cI 10 eb), (c0, kcI cI 12 ec), (n0, kcI cI 10 en), (p0, kcI cI 120 ep), (s0, kcI cI 10 es)] sz) := by
  refine vx_ofW (cc := cX10_plan) (maxL := 3) (ret := (some .int)) (by decide) rfl ?_
  intro p e s m args below meth c s₁ B hml hnt hv
  obtain ⟨rfl, hsz, hN, hE, hP, hK, hD0⟩ := hv
  have hx := B.exec
  have hb := B.bytes
  have hr := B.returns
  have hts := fun (w : Cond) (h : w ∈ kG) => atoms_spec (ws := kwX10_plan) B.pre w (List.mem_cons_of_mem _ h)
  have hown : s.vm.findClass RX10 = some m.cls := findClass_of_methodNamed B.named
  subst hsz
  have hD := hD0.self (sz := s.heap.size)
  generalize hAe : va_A [(w0, oX10 tp ts wb h ph pd ps cr lr hd pk gs), (h, oX0 m1 m2 m3 mc sc tx nr ra ru dy wa se none), (m1, kcI cI 50 f1), (m2, kcI cI 72 f2), (m3, kcJ cJ 30 f3), (hd, oX3 t0 b0 c0 n0 p0 s0 bc cc_), (t0, kcJ cJ 4096 et), (b0, kcI cI 10 eb), (c0, kcI cI 12 ec), (n0, kcI cI 10 en), (p0, kcI cI 120 ep), (s0, kcI cI 10 es)] s.heap.size = A at hD hE ⊢
  have hXd := hE.1
  have hX := hXd.1
  have hC := hE.2.1.1
  have hA : ∀ q : Nat, s.heap.size ≤ q → A q := fun q h => by rw [← hAe]; exact Or.inr h
  have hl := lv_entry ([.ref w0, .int a1, .int b1]) (n := 3) (Nat.le_of_ble_eq_true rfl)
  rw [lg_entry_eq]
  generalize (lg_sl ([.ref w0, .int a1, .int b1]) ++ List.replicate (3 - (lg_sl ([.ref w0, .int a1, .int b1])).length) Slot.unset).toArray = ls at hl ⊢
  have hl : lv_has ls 3 [(0, .ref w0), (1, .int a1), (2, .int b1)] := hl
  obtain ⟨H, hH0⟩ : ∃ H, H = s.heap := ⟨_, rfl⟩
  have hS : va_S A s.heap H [] := by rw [hH0]; exact va_S.rf
  have hP : va_P D vwCl [(w0, oX10 tp ts wb h ph pd ps cr lr hd pk gs), (h, oX0 m1 m2 m3 mc sc tx nr ra ru dy wa se none), (m1, kcI cI 50 f1), (m2, kcI cI 72 f2), (m3, kcJ cJ 30 f3), (hd, oX3 t0 b0 c0 n0 p0 s0 bc cc_), (t0, kcJ cJ 4096 et), (b0, kcI cI 10 eb), (c0, kcI cI 12 ec), (n0, kcI cI 10 en), (p0, kcI cI 120 ep), (s0, kcI cI 10 es)] H := by rw [hH0]; exact hP
  refine kHeap hH0 ?_
  clear hH0
  refine lv_aload_n hx hb dX10_plan_0 rfl (lv_at hl 0 rfl) ?_
  refine va_get (D := D) (ci := 9) (v := .ref h) (C := RX10) (T := TX10) (N := 12) hx hb hts iG_X10 hown hK hP 0 rfl rfl 3 (by decide) (hts _ w0_20) (fun _ h9 => h9) rfl dX10_plan_1 ?_
  refine lv_iload_n hx hb dX10_plan_4 rfl (lv_at hl 1 rfl) ?_
  refine kpurei (wc := [(h, oX0 m1 m2 m3 mc sc tx nr ra ru dy wa se none), (m1, kcI cI 50 f1), (m2, kcI cI 72 f2), (m3, kcJ cJ 30 f3)]) hP hD hS hA [1, 2, 3, 4] rfl (by decide) (fun hPc hDc hFc => va_runVN (C := RX0) (As := [.int a1]) (rest := []) ⟨hx, hb, hml, hown, hts⟩ (z_Camp_isMan l D cI cJ cB cC h m1 m2 m3 mc sc tx nr ra ru dy wa se none f1 f2 f3 a1 H.size) ⟨va_cnB 1 hts gX10_plan_X0_isMan_n136 rfl rfl rfl (nM_58 hN) (hts _ w0_19) hdX0_isMan ⟨Nat.le_of_ble_eq_true rfl, Nat.le_of_ble_eq_true rfl⟩, hts _ w14_18, hts _ w14_19⟩ ⟨kBlind, va_recv hK hPc (ci := 0) (q0 := 0) rfl rfl, fun U hU hW => ⟨rfl, by rw [hU], hN.warm hW, hE.pass hS hFc hW hU, by rw [hU]; exact hPc, va_K.moved hW.alike hK, hDc⟩⟩ rfl rfl hl.1 rfl (lv_room (Nat.le_of_ble_eq_true rfl)) dX10_plan_5 ⟨Nat.le_of_ble_eq_true rfl, Nat.le_of_ble_eq_true rfl⟩) (fun r1 u H locs hw hP hS => ?_)
  obtain ⟨k2, hw⟩ := hw
  rcases hw with rfl | ⟨rfl, kc3_0, kc3_1⟩
  · skip
    refine lv_if_ne (tgt := 21) hx hb dX10_plan_8 (by decide) (fun c4 => absurd (by decide) c4) (fun _ => ?_)
    obtain ⟨sa, hsa⟩ := hX.2.2.1 ("ShirtWash", 141, "no such man") (List.mem_of_getElem? (i := 2) rfl)
    have hP9 := hP.sub (ws' := [(w0, oX10 tp ts wb h ph pd ps cr lr hd pk gs), (h, oX0 m1 m2 m3 mc sc tx nr ra ru dy wa se none), (m1, kcI cI 50 f1), (m2, kcI cI 72 f2), (m3, kcJ cJ 30 f3), (hd, oX3 t0 b0 c0 n0 p0 s0 bc cc_), (t0, kcJ cJ 4096 et), (b0, kcI cI 10 eb), (c0, kcI cI 12 ec), (n0, kcI cI 10 en), (p0, kcI cI 120 ep), (s0, kcI cI 10 es)]) [0, 1, 2, 3, 4, 5, 6, 7, 8, 9, 10, 11] rfl
    have hD9 := hD.sub (ws' := [(w0, oX10 tp ts wb h ph pd ps cr lr hd pk gs), (h, oX0 m1 m2 m3 mc sc tx nr ra ru dy wa se none), (m1, kcI cI 50 f1), (m2, kcI cI 72 f2), (m3, kcJ cJ 30 f3), (hd, oX3 t0 b0 c0 n0 p0 s0 bc cc_), (t0, kcJ cJ 4096 et), (b0, kcI cI 10 eb), (c0, kcI cI 12 ec), (n0, kcI cI 10 en), (p0, kcI cI 120 ep), (s0, kcI cI 10 es)]) [0, 1, 2, 3, 4, 5, 6, 7, 8, 9, 10, 11] (by decide) rfl
    have hXF : F_z_SW_plan_n mc.toInt sc.toInt nr.toInt (gT f1) (gT f2) f3 et (gT eb) (gT ec) (gT en) (gT ep) (gT es) a1.toInt b1.toInt = Sum.inr (1, ()) := (kLet_eq (k2).symm (kif_t rfl rfl))
    exact vx_throwS (A := A) (text := "no such man") (cls := "java/lang/IndexOutOfBoundsException") (names := ["java/lang/RuntimeException", "java/lang/Exception"]) hx hb hst hown (by decide) (by decide) (hts _ w26_10) (hts _ w26_11) hsa (vx_hat (B := Cond.castable "java/lang/IndexOutOfBoundsException" "java/lang/IndexOutOfBoundsException" :: kDec.map Cond.declares) (fun w hw => hts w (kx143_g w hw)) kx143_b (kXB_0 hXd)) kx143_o hX.1 hX.2.1 hS (hl.1.trans hml.symm) dX10_plan_11 dX10_plan_14 dX10_plan_15 dX10_plan_17 dX10_plan_20 (fun x hx => (hnt x hx).elim) (Nat.le_of_ble_eq_true rfl) (Nat.le_of_ble_eq_true rfl) (Nat.le_of_ble_eq_true rfl) (Nat.le_of_ble_eq_true rfl) B.notSynchronized (fun t hvm hz hk => ⟨(), ⟨_, hXF⟩, ⟨⟨rfl, kXc_eq hXF⟩, fun k9 q9 h9 => (hP9 k9 q9 h9).kept (hk q9.1 (hP9 k9 q9 h9).lt), va_K.moved hvm hK, hD9⟩, Nat.le_trans hS.1 hz, fun q h1 h2 => (hk q (Nat.lt_of_lt_of_le h1 hS.1)).trans (hS.2.1 q h1 h2)⟩) hS.2.2 (Nat.le_of_ble_eq_true rfl) (Nat.le_of_ble_eq_true rfl)
  · skip
    refine lv_if_ne (tgt := 21) hx hb dX10_plan_8 (by decide) (fun _ => ?_) (fun c5 => absurd c5 (by decide))
    refine lv_aload_n hx hb dX10_plan_21 rfl (lv_at hl 0 rfl) ?_
    refine va_get (D := D) (ci := 9) (v := .ref hd) (C := RX10) (T := TX10) (N := 12) hx hb hts iG_X10 hown hK hP 0 rfl rfl 9 (by decide) (hts _ w1_14) (fun _ h9 => h9) rfl dX10_plan_22 ?_
    refine lv_aload_n hx hb dX10_plan_25 rfl (lv_at hl 0 rfl) ?_
    refine va_get (D := D) (ci := 9) (v := .ref h) (C := RX10) (T := TX10) (N := 12) hx hb hts iG_X10 hown hK hP 0 rfl rfl 3 (by decide) (hts _ w0_20) (fun _ h9 => h9) rfl dX10_plan_26 ?_
    refine kcallv (wc := [(hd, oX3 t0 b0 c0 n0 p0 s0 bc cc_), (t0, kcJ cJ 4096 et), (b0, kcI cI 10 eb), (c0, kcI cI 12 ec), (n0, kcI cI 10 en), (p0, kcI cI 120 ep), (s0, kcI cI 10 es), (h, oX0 m1 m2 m3 mc sc tx nr ra ru dy wa se none), (m1, kcI cI 50 f1), (m2, kcI cI 72 f2), (m3, kcJ cJ 30 f3)]) (wr := [(w0, oX10 tp ts wb h ph pd ps cr lr hd pk gs)]) hP hD hS hA [5, 6, 7, 8, 9, 10, 11, 1, 2, 3, 4] [0] rfl rfl (by decide) (by decide) (by decide) (fun hPc hDc hFc => va_runVN (C := RX3) (As := [.ref h]) (rest := []) ⟨hx, hb, hml, hown, hts⟩ (z_Hand_look_n l D cI cJ cB cC hd t0 b0 c0 n0 p0 s0 bc cc_ et eb ec en ep es h m1 m2 m3 mc sc tx nr ra ru dy wa se f1 f2 f3 H.size) ⟨va_cnB 1 hts gX10_plan_X3_look_n234 rfl rfl rfl (nM_16 hN) (hts _ w1_13) hdX3_look ⟨Nat.le_of_ble_eq_true rfl, Nat.le_of_ble_eq_true rfl⟩, hts _ w38_20, hts _ w38_21⟩ ⟨kBlind, va_recv hK hPc (ci := 3) (q0 := 0) rfl rfl, fun U hU hW => ⟨rfl, by rw [hU], hN.warm hW, hE.pass hS hFc hW hU, by rw [hU]; exact hPc, va_K.moved hW.alike hK, hDc⟩⟩ rfl rfl hl.1 rfl (lv_room (Nat.le_of_ble_eq_true rfl)) dX10_plan_29 ⟨Nat.le_of_ble_eq_true rfl, Nat.le_of_ble_eq_true rfl⟩) (fun u H locs hw hP hD hS => ?_)
    obtain ⟨x6, x7, g8, g9, g10, g11⟩ := u
    have hP : va_P D vwCl [(w0, oX10 tp ts wb h ph pd ps cr lr hd pk gs), (hd, oX3 t0 b0 c0 n0 p0 s0 x6 x7), (t0, kcJ cJ 4096 et), (b0, kcI cI 10 g8), (c0, kcI cI 12 g9), (n0, kcI cI 10 g10), (p0, kcI cI 120 g11), (s0, kcI cI 10 es), (h, oX0 m1 m2 m3 mc sc tx nr ra ru dy wa se none), (m1, kcI cI 50 f1), (m2, kcI cI 72 f2), (m3, kcJ cJ 30 f3)] H := hP
    have hD : va_D A [(w0, oX10 tp ts wb h ph pd ps cr lr hd pk gs), (hd, oX3 t0 b0 c0 n0 p0 s0 x6 x7), (t0, kcJ cJ 4096 et), (b0, kcI cI 10 g8), (c0, kcI cI 12 g9), (n0, kcI cI 10 g10), (p0, kcI cI 120 g11), (s0, kcI cI 10 es), (h, oX0 m1 m2 m3 mc sc tx nr ra ru dy wa se none), (m1, kcI cI 50 f1), (m2, kcI cI 72 f2), (m3, kcJ cJ 30 f3)] := hD
    obtain ⟨k12, k13, k14⟩ := hw
    refine lv_aload_n hx hb dX10_plan_32 rfl (lv_at hl 0 rfl) ?_
    refine va_get (D := D) (ci := 9) (v := .ref hd) (C := RX10) (T := TX10) (N := 12) hx hb hts iG_X10 hown hK hP 0 rfl rfl 9 (by decide) (hts _ w1_14) (fun _ h9 => h9) rfl dX10_plan_33 ?_
    refine lv_iload_n hx hb dX10_plan_36 rfl (lv_at hl 2 rfl) ?_
    refine kcalli (wc := [(hd, oX3 t0 b0 c0 n0 p0 s0 x6 x7), (t0, kcJ cJ 4096 et), (b0, kcI cI 10 g8), (c0, kcI cI 12 g9), (n0, kcI cI 10 g10), (p0, kcI cI 120 g11), (s0, kcI cI 10 es)]) (wr := [(w0, oX10 tp ts wb h ph pd ps cr lr hd pk gs), (h, oX0 m1 m2 m3 mc sc tx nr ra ru dy wa se none), (m1, kcI cI 50 f1), (m2, kcI cI 72 f2), (m3, kcJ cJ 30 f3)]) hP hD hS hA [1, 2, 3, 4, 5, 6, 7] [0, 8, 9, 10, 11] rfl rfl (by decide) (by decide) (by decide) (fun hPc hDc hFc => va_runVN (C := RX3) (As := [.int b1]) (rest := []) ⟨hx, hb, hml, hown, hts⟩ (z_Hand_choose l D cI cJ cB cC hd t0 b0 c0 n0 p0 s0 x6 x7 et g8 g9 g10 g11 es b1 H.size H_b1 k12 k13) ⟨va_cnB 1 hts gX10_plan_X3_choose_n241 rfl rfl rfl (nM_73 hN) (hts _ w1_13) hdX3_choose ⟨Nat.le_of_ble_eq_true rfl, Nat.le_of_ble_eq_true rfl⟩, hts _ w41_0, hts _ w41_1⟩ ⟨kBlind, va_recv hK hPc (ci := 3) (q0 := 0) rfl rfl, fun U hU hW => ⟨rfl, by rw [hU], hN.warm hW, hE.pass hS hFc hW hU, by rw [hU]; exact hPc, va_K.moved hW.alike hK, hDc⟩⟩ rfl rfl hl.1 rfl (lv_room (Nat.le_of_ble_eq_true rfl)) dX10_plan_37 ⟨Nat.le_of_ble_eq_true rfl, Nat.le_of_ble_eq_true rfl⟩) (fun r15 u H locs hw hP hD hS => ?_)
    obtain ⟨g16, g17⟩ := u
    have hP : va_P D vwCl [(w0, oX10 tp ts wb h ph pd ps cr lr hd pk gs), (h, oX0 m1 m2 m3 mc sc tx nr ra ru dy wa se none), (m1, kcI cI 50 f1), (m2, kcI cI 72 f2), (m3, kcJ cJ 30 f3), (hd, oX3 t0 b0 c0 n0 p0 s0 x6 x7), (t0, kcJ cJ 4096 g16), (b0, kcI cI 10 g8), (c0, kcI cI 12 g9), (n0, kcI cI 10 g10), (p0, kcI cI 120 g11), (s0, kcI cI 10 g17)] H := hP
    have hD : va_D A [(w0, oX10 tp ts wb h ph pd ps cr lr hd pk gs), (h, oX0 m1 m2 m3 mc sc tx nr ra ru dy wa se none), (m1, kcI cI 50 f1), (m2, kcI cI 72 f2), (m3, kcJ cJ 30 f3), (hd, oX3 t0 b0 c0 n0 p0 s0 x6 x7), (t0, kcJ cJ 4096 g16), (b0, kcI cI 10 g8), (c0, kcI cI 12 g9), (n0, kcI cI 10 g10), (p0, kcI cI 120 g11), (s0, kcI cI 10 g17)] := hD
    obtain ⟨k18, hw⟩ := hw
    rcases hw with rfl | rfl
    · skip
      refine lv_if_eq (tgt := 54) hx hb dX10_plan_40 (by decide) (fun _ => ?_) (fun c21 => absurd (by decide) c21)
      refine lv_iconst (v := (-1)) hx hb dX10_plan_54 (by decide) ?_
      have hP9 := hP.sub (ws' := [(w0, oX10 tp ts wb h ph pd ps cr lr hd pk gs), (h, oX0 m1 m2 m3 mc sc tx nr ra ru dy wa se none), (m1, kcI cI 50 f1), (m2, kcI cI 72 f2), (m3, kcJ cJ 30 f3), (hd, oX3 t0 b0 c0 n0 p0 s0 x6 x7), (t0, kcJ cJ 4096 g16), (b0, kcI cI 10 g8), (c0, kcI cI 12 g9), (n0, kcI cI 10 g10), (p0, kcI cI 120 g11), (s0, kcI cI 10 g17)]) [0, 1, 2, 3, 4, 5, 6, 7, 8, 9, 10, 11] rfl
      have hD9 := hD.sub (ws' := [(w0, oX10 tp ts wb h ph pd ps cr lr hd pk gs), (h, oX0 m1 m2 m3 mc sc tx nr ra ru dy wa se none), (m1, kcI cI 50 f1), (m2, kcI cI 72 f2), (m3, kcJ cJ 30 f3), (hd, oX3 t0 b0 c0 n0 p0 s0 x6 x7), (t0, kcJ cJ 4096 g16), (b0, kcI cI 10 g8), (c0, kcI cI 12 g9), (n0, kcI cI 10 g10), (p0, kcI cI 120 g11), (s0, kcI cI 10 g17)]) [0, 1, 2, 3, 4, 5, 6, 7, 8, 9, 10, 11] (by decide) rfl
      refine W.widen (k := 1) (n := 6) (Nat.le_of_ble_eq_true rfl) (Nat.le_of_ble_eq_true rfl) ?_
      refine vx_ret ?_
      exact W.iret (v := (-1)) hx hb hr (fun t ht hW => ⟨⟨(-1), (x6, x7, g16, g8, g9, g10, g11, g17), rfl, ⟨k12, k13, (kLet_eq (k2).symm (kif_f (by decide) (kC_eq k14 (kC_eq rfl (kC_eq rfl (kC_eq rfl (kC_eq rfl (kC_eq k18 (kC_eq rfl (kif_t rfl rfl))))))))))⟩, by rw [ht]; exact hP9, va_K.moved hW.alike hK, hD9⟩, hS.F ht⟩) hS.2.2 dX10_plan_55
    · skip
      refine lv_if_eq (tgt := 54) hx hb dX10_plan_40 (by decide) (fun c25 => absurd c25 (by decide)) (fun _ => ?_)
      refine lv_aload_n hx hb dX10_plan_43 rfl (lv_at hl 0 rfl) ?_
      refine va_get (D := D) (ci := 9) (v := .ref hd) (C := RX10) (T := TX10) (N := 12) hx hb hts iG_X10 hown hK hP 0 rfl rfl 9 (by decide) (hts _ w1_14) (fun _ h9 => h9) rfl dX10_plan_44 ?_
      refine lv_iload_n hx hb dX10_plan_47 rfl (lv_at hl 1 rfl) ?_
      refine kpurei (wc := [(hd, oX3 t0 b0 c0 n0 p0 s0 x6 x7), (t0, kcJ cJ 4096 g16), (b0, kcI cI 10 g8), (c0, kcI cI 12 g9), (n0, kcI cI 10 g10), (p0, kcI cI 120 g11), (s0, kcI cI 10 g17)]) hP hD hS hA [5, 6, 7, 8, 9, 10, 11] rfl (by decide) (fun hPc hDc hFc => va_runVN (C := RX3) (As := [.int a1]) (rest := []) ⟨hx, hb, hml, hown, hts⟩ (z_Hand_shirtFor l D cI cJ cB cC hd t0 b0 c0 n0 p0 s0 x6 x7 g16 g8 g9 g10 g11 g17 a1 H.size k12 k13) ⟨va_cnB 1 hts gX10_plan_X3_shirtFor_n245 rfl rfl rfl (nM_74 hN) (hts _ w1_13) hdX3_shirtFor ⟨Nat.le_of_ble_eq_true rfl, Nat.le_of_ble_eq_true rfl⟩, hts _ w42_1, hts _ w42_2⟩ ⟨kBlind, va_recv hK hPc (ci := 3) (q0 := 0) rfl rfl, fun U hU hW => ⟨rfl, by rw [hU], hN.warm hW, hE.pass hS hFc hW hU, by rw [hU]; exact hPc, va_K.moved hW.alike hK, hDc⟩⟩ rfl rfl hl.1 rfl (lv_room (Nat.le_of_ble_eq_true rfl)) dX10_plan_48 ⟨Nat.le_of_ble_eq_true rfl, Nat.le_of_ble_eq_true rfl⟩) (fun r26 u H locs hw hP hS => ?_)
      have k27 := hw
      refine lv_goto (tgt := 55) hx hb dX10_plan_51 (by decide) ?_
      have hP9 := hP.sub (ws' := [(w0, oX10 tp ts wb h ph pd ps cr lr hd pk gs), (h, oX0 m1 m2 m3 mc sc tx nr ra ru dy wa se none), (m1, kcI cI 50 f1), (m2, kcI cI 72 f2), (m3, kcJ cJ 30 f3), (hd, oX3 t0 b0 c0 n0 p0 s0 x6 x7), (t0, kcJ cJ 4096 g16), (b0, kcI cI 10 g8), (c0, kcI cI 12 g9), (n0, kcI cI 10 g10), (p0, kcI cI 120 g11), (s0, kcI cI 10 g17)]) [0, 1, 2, 3, 4, 5, 6, 7, 8, 9, 10, 11] rfl
      have hD9 := hD.sub (ws' := [(w0, oX10 tp ts wb h ph pd ps cr lr hd pk gs), (h, oX0 m1 m2 m3 mc sc tx nr ra ru dy wa se none), (m1, kcI cI 50 f1), (m2, kcI cI 72 f2), (m3, kcJ cJ 30 f3), (hd, oX3 t0 b0 c0 n0 p0 s0 x6 x7), (t0, kcJ cJ 4096 g16), (b0, kcI cI 10 g8), (c0, kcI cI 12 g9), (n0, kcI cI 10 g10), (p0, kcI cI 120 g11), (s0, kcI cI 10 g17)]) [0, 1, 2, 3, 4, 5, 6, 7, 8, 9, 10, 11] (by decide) rfl
      refine W.widen (k := 1) (n := 6) (Nat.le_of_ble_eq_true rfl) (Nat.le_of_ble_eq_true rfl) ?_
      refine vx_ret ?_
      exact W.iret (v := r26) hx hb hr (fun t ht hW => ⟨⟨r26, (x6, x7, g16, g8, g9, g10, g11, g17), rfl, ⟨k12, k13, (kLet_eq (k2).symm (kif_f (by decide) (kC_eq k14 (kC_eq rfl (kC_eq rfl (kC_eq rfl (kC_eq rfl (kC_eq k18 (kC_eq rfl (kif_f (by decide) (kLet_eq (k27).symm rfl)))))))))))⟩, by rw [ht]; exact hP9, va_K.moved hW.alike hK, hD9⟩, hS.F ht⟩) hS.2.2 dX10_plan_55

def kwX10_ways : List Cond := .code yX10_ways cX10_ways 1 (some .long) :: kG
theorem hdX10_ways : yX10_ways.cls ≠ "java/lang/invoke/MethodHandle" ∧ yX10_ways.cls ≠ "java/lang/invoke/VarHandle" ∧ (parseMethodDescriptor yX10_ways.desc).map (fun d => d.parameters.length) = some 0 := by decide +kernel
theorem gX10_ways_X3_countAll_n237 : GoodIn kG (kwX3_countAll) := gK w39_5 gGG
theorem gX10_ways_X3_look_n234 : GoodIn kG (kwX3_look) := gK w38_22 gGG
theorem dX10_ways_0 : decode cX10_ways 0 = .ok (.aload_n 0, 1) := by decide +kernel
theorem dX10_ways_1 : decode cX10_ways 1 = .ok (.getfield 58, 3) := by decide +kernel
theorem dX10_ways_4 : decode cX10_ways 4 = .ok (.aload_n 0, 1) := by decide +kernel
theorem dX10_ways_5 : decode cX10_ways 5 = .ok (.getfield 23, 3) := by decide +kernel
theorem dX10_ways_8 : decode cX10_ways 8 = .ok (.invokevirtual 234, 3) := by decide +kernel
theorem dX10_ways_11 : decode cX10_ways 11 = .ok (.aload_n 0, 1) := by decide +kernel
theorem dX10_ways_12 : decode cX10_ways 12 = .ok (.getfield 58, 3) := by decide +kernel
theorem dX10_ways_15 : decode cX10_ways 15 = .ok (.invokevirtual 237, 3) := by decide +kernel
theorem dX10_ways_18 : decode cX10_ways 18 = .ok (.lreturn, 1) := by decide +kernel
set_option maxHeartbeats 4000000 in
set_option maxRecDepth 100000 in
/-- ShirtWash.ways (n) -/
theorem z_SW_ways_n (l : Launch) (D : va_G) (cI cJ cB cC : ClassId) (w0 : Nat) (tp : Nat) (ts : Int32) (wb : Int32) (ph : Nat) (pd : Int32) (ps : Nat) (cr : Nat) (lr : Nat) (hd : Nat) (pk : Nat) (gs : Nat) (h : Nat) (m1 : Nat) (m2 : Nat) (m3 : Nat) (mc : Int32) (sc : Int32) (tx : Int32) (nr : Int32) (ra : Int32) (ru : Int32) (dy : Int32) (wa : Int32) (se : Int32) (f1 : Nat → Int32) (f2 : Nat → Int32) (f3 : Nat → Int64) (t0 : Nat) (b0 : Nat) (c0 : Nat) (n0 : Nat) (p0 : Nat) (s0 : Nat) (bc : Int32) (cc_ : Int32) (et : Nat → Int64) (eb : Nat → Int32) (ec : Nat → Int32) (en : Nat → Int32) (ep : Nat → Int32) (es : Nat → Int32) (sz : Nat)  : Met l yX10_ways kwX10_ways ({ frames := 6, cells := 0, slots := 0, locals := 137 } : Room) (kPre D (kT cI cJ cB cC) sz [(w0, oX10 tp ts wb h ph pd ps cr lr hd pk gs), (h, oX0 m1 m2 m3 mc sc tx nr ra ru dy wa se none), (m1, kcI cI 50 f1), (m2, kcI cI 72 f2), (m3, kcJ cJ 30 f3), (hd, oX3 t0 b0 c0 n0 p0 s0 bc cc_), (t0, kcJ cJ 4096 et), (b0, kcI cI 10 eb), (c0, kcI cI 12 ec), (n0, kcI cI 10 en), (p0, kcI cI 120 ep), (s0, kcI cI 10 es)] [.ref w0]) (va_Ql (fun (r : Int64) (uu : Int32 × Int32 × (Nat → Int64) × (Nat → Int32) × (Nat → Int32) × (Nat → Int32) × (Nat → Int32)) => match uu with | (n0_, n1_, f2_, f3_, f4_, f5_, f6_) => Rg n0_ 0 10 ∧ Rg n1_ 0 12 ∧ F_z_SW_ways_n (mc : Int32).toInt (sc : Int32).toInt (nr : Int32).toInt (gT f1) (gT f2) f3 et (gT eb) (gT ec) (gT en) (gT ep) = (r, (n0_ : Int32).toInt, (n1_ : Int32).toInt, f2_, (gT f3_), (gT f4_), (gT f5_), (gT f6_))) (fun (uu : Int32 × Int32 × (Nat → Int64) × (Nat → Int32) × (Nat → Int32) × (Nat → Int32) × (Nat → Int32)) (t : State) => match uu with | (n0_, n1_, f2_, f3_, f4_, f5_, f6_) => kB D (kT cI cJ cB cC) (va_A [(w0, oX10 tp ts wb h ph pd ps cr lr hd pk gs), (h, oX0 m1 m2 m3 mc sc tx nr ra ru dy wa se none), (m1, kcI cI 50 f1), (m2, kcI cI 72 f2), (m3, kcJ cJ 30 f3), (hd, oX3 t0 b0 c0 n0 p0 s0 bc cc_), (t0, kcJ cJ 4096 et), (b0, kcI cI 10 eb), (c0, kcI cI 12 ec), (n0, kcI cI 10 en), (p0, kcI cI 120 ep), (s0, kcI cI 10 es)] sz) [(w0, oX10 tp ts wb h ph pd ps cr lr hd pk gs), (h, oX0 m1 m2 m3 mc sc tx nr ra ru dy wa se none), (m1, kcI cI 50 f1), (m2, kcI cI 72 f2), (m3, kcJ cJ 30 f3), (hd, oX3 t0 b0 c0 n0 p0 s0 n0_ n1_), (t0, kcJ cJ 4096 f2_), (b0, kcI cI 10 f3_), (c0, kcI cI 12 f4_), (n0, kcI cI 10 f5_), (p0, kcI cI 120 f6_), (s0, kcI cI 10 es)] t) (va_A [(w0, oX10 tp ts wb h ph pd ps cr lr hd pk gs), (h, oX0 m1 m2 m3 mc sc tx nr ra ru dy wa se none), (m1, kcI cI 50 f1), (m2, kcI cI 72 f2), (m3, kcJ cJ 30 f3), (hd, oX3 t0 b0 c0 n0 p0 s0 bc cc_), (t0, kcJ cJ 4096 et), (b0, kcI cI 10 eb), (c0, kcI cI 12 ec), (n0, kcI cI 10 en), (p0, kcI cI 120 ep), (s0, kcI cI 10 es)] sz)) 0 0 (va_A [(w0, oX10 tp ts wb h ph pd ps cr lr hd pk gs), (h, oX0 m1 m2 m3 mc sc tx nr ra ru dy wa se none), (m1, kcI cI 50 f1), (m2, kcI cI 72 f2), (m3, kcJ cJ 30 f3), (hd, oX3 t0 b0 c0 n0 p0 s0 bc cc_), (t0, kcJ cJ 4096 et), (b0, kcI cI 10 eb), (c0, kcI cI 12 ec), (n0, kcI cI 10 en), (p0, kcI cI 120 ep), (s0, kcI cI 10 es)] sz) := by
  refine Met.ofW (cc := cX10_ways) (maxL := 1) (ret := (some .long)) (by decide) rfl ?_
  intro p e s m args below meth c s₁ B hml hv
  obtain ⟨rfl, hsz, hN, hE, hP, hK, hD0⟩ := hv
  have hx := B.exec
  have hb := B.bytes
  have hr := B.returns
  have hts := fun (w : Cond) (h : w ∈ kG) => atoms_spec (ws := kwX10_ways) B.pre w (List.mem_cons_of_mem _ h)
  have hown : s.vm.findClass RX10 = some m.cls := findClass_of_methodNamed B.named
  subst hsz
  have hD := hD0.self (sz := s.heap.size)
  generalize hAe : va_A [(w0, oX10 tp ts wb h ph pd ps cr lr hd pk gs), (h, oX0 m1 m2 m3 mc sc tx nr ra ru dy wa se none), (m1, kcI cI 50 f1), (m2, kcI cI 72 f2), (m3, kcJ cJ 30 f3), (hd, oX3 t0 b0 c0 n0 p0 s0 bc cc_), (t0, kcJ cJ 4096 et), (b0, kcI cI 10 eb), (c0, kcI cI 12 ec), (n0, kcI cI 10 en), (p0, kcI cI 120 ep), (s0, kcI cI 10 es)] s.heap.size = A at hD hE ⊢
  have hA : ∀ q : Nat, s.heap.size ≤ q → A q := fun q h => by rw [← hAe]; exact Or.inr h
  have hl := lv_entry ([.ref w0]) (n := 1) (Nat.le_of_ble_eq_true rfl)
  rw [lg_entry_eq]
  generalize (lg_sl ([.ref w0]) ++ List.replicate (1 - (lg_sl ([.ref w0])).length) Slot.unset).toArray = ls at hl ⊢
  have hl : lv_has ls 1 [(0, .ref w0)] := hl
  obtain ⟨H, hH0⟩ : ∃ H, H = s.heap := ⟨_, rfl⟩
  have hS : va_S A s.heap H [] := by rw [hH0]; exact va_S.rf
  have hP : va_P D vwCl [(w0, oX10 tp ts wb h ph pd ps cr lr hd pk gs), (h, oX0 m1 m2 m3 mc sc tx nr ra ru dy wa se none), (m1, kcI cI 50 f1), (m2, kcI cI 72 f2), (m3, kcJ cJ 30 f3), (hd, oX3 t0 b0 c0 n0 p0 s0 bc cc_), (t0, kcJ cJ 4096 et), (b0, kcI cI 10 eb), (c0, kcI cI 12 ec), (n0, kcI cI 10 en), (p0, kcI cI 120 ep), (s0, kcI cI 10 es)] H := by rw [hH0]; exact hP
  refine kHeap hH0 ?_
  clear hH0
  refine lv_aload_n hx hb dX10_ways_0 rfl (lv_at hl 0 rfl) ?_
  refine va_get (D := D) (ci := 9) (v := .ref hd) (C := RX10) (T := TX10) (N := 12) hx hb hts iG_X10 hown hK hP 0 rfl rfl 9 (by decide) (hts _ w1_14) (fun _ h9 => h9) rfl dX10_ways_1 ?_
  refine lv_aload_n hx hb dX10_ways_4 rfl (lv_at hl 0 rfl) ?_
  refine va_get (D := D) (ci := 9) (v := .ref h) (C := RX10) (T := TX10) (N := 12) hx hb hts iG_X10 hown hK hP 0 rfl rfl 3 (by decide) (hts _ w0_20) (fun _ h9 => h9) rfl dX10_ways_5 ?_
  refine kcallv (wc := [(hd, oX3 t0 b0 c0 n0 p0 s0 bc cc_), (t0, kcJ cJ 4096 et), (b0, kcI cI 10 eb), (c0, kcI cI 12 ec), (n0, kcI cI 10 en), (p0, kcI cI 120 ep), (s0, kcI cI 10 es), (h, oX0 m1 m2 m3 mc sc tx nr ra ru dy wa se none), (m1, kcI cI 50 f1), (m2, kcI cI 72 f2), (m3, kcJ cJ 30 f3)]) (wr := [(w0, oX10 tp ts wb h ph pd ps cr lr hd pk gs)]) hP hD hS hA [5, 6, 7, 8, 9, 10, 11, 1, 2, 3, 4] [0] rfl rfl (by decide) (by decide) (by decide) (fun hPc hDc hFc => va_runVN (C := RX3) (As := [.ref h]) (rest := []) ⟨hx, hb, hml, hown, hts⟩ (z_Hand_look_n l D cI cJ cB cC hd t0 b0 c0 n0 p0 s0 bc cc_ et eb ec en ep es h m1 m2 m3 mc sc tx nr ra ru dy wa se f1 f2 f3 H.size) ⟨va_cnB 1 hts gX10_ways_X3_look_n234 rfl rfl rfl (nM_16 hN) (hts _ w1_13) hdX3_look ⟨Nat.le_of_ble_eq_true rfl, Nat.le_of_ble_eq_true rfl⟩, hts _ w38_20, hts _ w38_21⟩ ⟨kBlind, va_recv hK hPc (ci := 3) (q0 := 0) rfl rfl, fun U hU hW => ⟨rfl, by rw [hU], hN.warm hW, hE.pass hS hFc hW hU, by rw [hU]; exact hPc, va_K.moved hW.alike hK, hDc⟩⟩ rfl rfl hl.1 rfl (lv_room (Nat.le_of_ble_eq_true rfl)) dX10_ways_8 ⟨Nat.le_of_ble_eq_true rfl, Nat.le_of_ble_eq_true rfl⟩) (fun u H locs hw hP hD hS => ?_)
  obtain ⟨x1, x2, g3, g4, g5, g6⟩ := u
  have hP : va_P D vwCl [(w0, oX10 tp ts wb h ph pd ps cr lr hd pk gs), (hd, oX3 t0 b0 c0 n0 p0 s0 x1 x2), (t0, kcJ cJ 4096 et), (b0, kcI cI 10 g3), (c0, kcI cI 12 g4), (n0, kcI cI 10 g5), (p0, kcI cI 120 g6), (s0, kcI cI 10 es), (h, oX0 m1 m2 m3 mc sc tx nr ra ru dy wa se none), (m1, kcI cI 50 f1), (m2, kcI cI 72 f2), (m3, kcJ cJ 30 f3)] H := hP
  have hD : va_D A [(w0, oX10 tp ts wb h ph pd ps cr lr hd pk gs), (hd, oX3 t0 b0 c0 n0 p0 s0 x1 x2), (t0, kcJ cJ 4096 et), (b0, kcI cI 10 g3), (c0, kcI cI 12 g4), (n0, kcI cI 10 g5), (p0, kcI cI 120 g6), (s0, kcI cI 10 es), (h, oX0 m1 m2 m3 mc sc tx nr ra ru dy wa se none), (m1, kcI cI 50 f1), (m2, kcI cI 72 f2), (m3, kcJ cJ 30 f3)] := hD
  obtain ⟨k7, k8, k9⟩ := hw
  refine lv_aload_n hx hb dX10_ways_11 rfl (lv_at hl 0 rfl) ?_
  refine va_get (D := D) (ci := 9) (v := .ref hd) (C := RX10) (T := TX10) (N := 12) hx hb hts iG_X10 hown hK hP 0 rfl rfl 9 (by decide) (hts _ w1_14) (fun _ h9 => h9) rfl dX10_ways_12 ?_
  refine kcalll (wc := [(hd, oX3 t0 b0 c0 n0 p0 s0 x1 x2), (t0, kcJ cJ 4096 et), (b0, kcI cI 10 g3), (c0, kcI cI 12 g4), (n0, kcI cI 10 g5), (p0, kcI cI 120 g6), (s0, kcI cI 10 es)]) (wr := [(w0, oX10 tp ts wb h ph pd ps cr lr hd pk gs), (h, oX0 m1 m2 m3 mc sc tx nr ra ru dy wa se none), (m1, kcI cI 50 f1), (m2, kcI cI 72 f2), (m3, kcJ cJ 30 f3)]) hP hD hS hA [1, 2, 3, 4, 5, 6, 7] [0, 8, 9, 10, 11] rfl rfl (by decide) (by decide) (by decide) (fun hPc hDc hFc => va_runVN (C := RX3) (As := []) (rest := []) ⟨hx, hb, hml, hown, hts⟩ (z_Hand_countAll l D cI cJ cB cC hd t0 b0 c0 n0 p0 s0 x1 x2 et g3 g4 g5 g6 es H.size k7 k8) ⟨va_cnB 0 hts gX10_ways_X3_countAll_n237 rfl rfl rfl (nM_28 hN) (hts _ w1_13) hdX3_countAll ⟨Nat.le_of_ble_eq_true rfl, Nat.le_of_ble_eq_true rfl⟩, hts _ w39_3, hts _ w39_4⟩ ⟨kBlind, va_recv hK hPc (ci := 3) (q0 := 0) rfl rfl, fun U hU hW => ⟨rfl, by rw [hU], hN.warm hW, hE.pass hS hFc hW hU, by rw [hU]; exact hPc, va_K.moved hW.alike hK, hDc⟩⟩ rfl rfl hl.1 rfl (lv_room (Nat.le_of_ble_eq_true rfl)) dX10_ways_15 ⟨Nat.le_of_ble_eq_true rfl, Nat.le_of_ble_eq_true rfl⟩) (fun r10 u H locs hw hP hD hS => ?_)
  obtain ⟨g11, rfl⟩ : ∃ z, z = u := ⟨_, rfl⟩
  have hP : va_P D vwCl [(w0, oX10 tp ts wb h ph pd ps cr lr hd pk gs), (h, oX0 m1 m2 m3 mc sc tx nr ra ru dy wa se none), (m1, kcI cI 50 f1), (m2, kcI cI 72 f2), (m3, kcJ cJ 30 f3), (hd, oX3 t0 b0 c0 n0 p0 s0 x1 x2), (t0, kcJ cJ 4096 g11), (b0, kcI cI 10 g3), (c0, kcI cI 12 g4), (n0, kcI cI 10 g5), (p0, kcI cI 120 g6), (s0, kcI cI 10 es)] H := hP
  have hD : va_D A [(w0, oX10 tp ts wb h ph pd ps cr lr hd pk gs), (h, oX0 m1 m2 m3 mc sc tx nr ra ru dy wa se none), (m1, kcI cI 50 f1), (m2, kcI cI 72 f2), (m3, kcJ cJ 30 f3), (hd, oX3 t0 b0 c0 n0 p0 s0 x1 x2), (t0, kcJ cJ 4096 g11), (b0, kcI cI 10 g3), (c0, kcI cI 12 g4), (n0, kcI cI 10 g5), (p0, kcI cI 120 g6), (s0, kcI cI 10 es)] := hD
  have k12 := hw
  have hP9 := hP.sub (ws' := [(w0, oX10 tp ts wb h ph pd ps cr lr hd pk gs), (h, oX0 m1 m2 m3 mc sc tx nr ra ru dy wa se none), (m1, kcI cI 50 f1), (m2, kcI cI 72 f2), (m3, kcJ cJ 30 f3), (hd, oX3 t0 b0 c0 n0 p0 s0 x1 x2), (t0, kcJ cJ 4096 g11), (b0, kcI cI 10 g3), (c0, kcI cI 12 g4), (n0, kcI cI 10 g5), (p0, kcI cI 120 g6), (s0, kcI cI 10 es)]) [0, 1, 2, 3, 4, 5, 6, 7, 8, 9, 10, 11] rfl
  have hD9 := hD.sub (ws' := [(w0, oX10 tp ts wb h ph pd ps cr lr hd pk gs), (h, oX0 m1 m2 m3 mc sc tx nr ra ru dy wa se none), (m1, kcI cI 50 f1), (m2, kcI cI 72 f2), (m3, kcJ cJ 30 f3), (hd, oX3 t0 b0 c0 n0 p0 s0 x1 x2), (t0, kcJ cJ 4096 g11), (b0, kcI cI 10 g3), (c0, kcI cI 12 g4), (n0, kcI cI 10 g5), (p0, kcI cI 120 g6), (s0, kcI cI 10 es)]) [0, 1, 2, 3, 4, 5, 6, 7, 8, 9, 10, 11] (by decide) rfl
  exact W.lret (v := r10) hx hb hr (fun t ht hW => ⟨⟨r10, (x1, x2, g11, g3, g4, g5, g6), rfl, ⟨k7, k8, (kC_eq k9 (kC_eq rfl (kC_eq rfl (kC_eq rfl (kC_eq rfl (kC_eq k12 rfl))))))⟩, by rw [ht]; exact hP9, va_K.moved hW.alike hK, hD9⟩, hS.F ht⟩) hS.2.2 dX10_ways_18

def kwX10_least : List Cond := .code yX10_least cX10_least 1 (some .int) :: kG
theorem hdX10_least : yX10_least.cls ≠ "java/lang/invoke/MethodHandle" ∧ yX10_least.cls ≠ "java/lang/invoke/VarHandle" ∧ (parseMethodDescriptor yX10_least.desc).map (fun d => d.parameters.length) = some 0 := by decide +kernel
theorem gX10_least_X3_leastPrice_n248 : GoodIn kG (kwX3_leastPrice) := gK w43_3 gGG
theorem gX10_least_X3_look_n234 : GoodIn kG (kwX3_look) := gK w38_22 gGG
theorem dX10_least_0 : decode cX10_least 0 = .ok (.aload_n 0, 1) := by decide +kernel
theorem dX10_least_1 : decode cX10_least 1 = .ok (.getfield 58, 3) := by decide +kernel
theorem dX10_least_4 : decode cX10_least 4 = .ok (.aload_n 0, 1) := by decide +kernel
theorem dX10_least_5 : decode cX10_least 5 = .ok (.getfield 23, 3) := by decide +kernel
theorem dX10_least_8 : decode cX10_least 8 = .ok (.invokevirtual 234, 3) := by decide +kernel
theorem dX10_least_11 : decode cX10_least 11 = .ok (.aload_n 0, 1) := by decide +kernel
theorem dX10_least_12 : decode cX10_least 12 = .ok (.getfield 58, 3) := by decide +kernel
theorem dX10_least_15 : decode cX10_least 15 = .ok (.invokevirtual 248, 3) := by decide +kernel
theorem dX10_least_18 : decode cX10_least 18 = .ok (.ireturn, 1) := by decide +kernel
set_option maxHeartbeats 4000000 in
set_option maxRecDepth 100000 in
/-- ShirtWash.least (n) -/
theorem z_SW_least_n (l : Launch) (D : va_G) (cI cJ cB cC : ClassId) (w0 : Nat) (tp : Nat) (ts : Int32) (wb : Int32) (ph : Nat) (pd : Int32) (ps : Nat) (cr : Nat) (lr : Nat) (hd : Nat) (pk : Nat) (gs : Nat) (h : Nat) (m1 : Nat) (m2 : Nat) (m3 : Nat) (mc : Int32) (sc : Int32) (tx : Int32) (nr : Int32) (ra : Int32) (ru : Int32) (dy : Int32) (wa : Int32) (se : Int32) (f1 : Nat → Int32) (f2 : Nat → Int32) (f3 : Nat → Int64) (t0 : Nat) (b0 : Nat) (c0 : Nat) (n0 : Nat) (p0 : Nat) (s0 : Nat) (bc : Int32) (cc_ : Int32) (et : Nat → Int64) (eb : Nat → Int32) (ec : Nat → Int32) (en : Nat → Int32) (ep : Nat → Int32) (es : Nat → Int32) (sz : Nat)  : Met l yX10_least kwX10_least ({ frames := 6, cells := 0, slots := 0, locals := 137 } : Room) (kPre D (kT cI cJ cB cC) sz [(w0, oX10 tp ts wb h ph pd ps cr lr hd pk gs), (h, oX0 m1 m2 m3 mc sc tx nr ra ru dy wa se none), (m1, kcI cI 50 f1), (m2, kcI cI 72 f2), (m3, kcJ cJ 30 f3), (hd, oX3 t0 b0 c0 n0 p0 s0 bc cc_), (t0, kcJ cJ 4096 et), (b0, kcI cI 10 eb), (c0, kcI cI 12 ec), (n0, kcI cI 10 en), (p0, kcI cI 120 ep), (s0, kcI cI 10 es)] [.ref w0]) (va_Qi (fun (r : Int32) (uu : Int32 × Int32 × (Nat → Int64) × (Nat → Int32) × (Nat → Int32) × (Nat → Int32) × (Nat → Int32)) => match uu with | (n0_, n1_, f2_, f3_, f4_, f5_, f6_) => Rg n0_ 0 10 ∧ Rg n1_ 0 12 ∧ F_z_SW_least_n (mc : Int32).toInt (sc : Int32).toInt (nr : Int32).toInt (gT f1) (gT f2) f3 et (gT eb) (gT ec) (gT en) (gT ep) = ((r : Int32).toInt, (n0_ : Int32).toInt, (n1_ : Int32).toInt, f2_, (gT f3_), (gT f4_), (gT f5_), (gT f6_))) (fun (uu : Int32 × Int32 × (Nat → Int64) × (Nat → Int32) × (Nat → Int32) × (Nat → Int32) × (Nat → Int32)) (t : State) => match uu with | (n0_, n1_, f2_, f3_, f4_, f5_, f6_) => kB D (kT cI cJ cB cC) (va_A [(w0, oX10 tp ts wb h ph pd ps cr lr hd pk gs), (h, oX0 m1 m2 m3 mc sc tx nr ra ru dy wa se none), (m1, kcI cI 50 f1), (m2, kcI cI 72 f2), (m3, kcJ cJ 30 f3), (hd, oX3 t0 b0 c0 n0 p0 s0 bc cc_), (t0, kcJ cJ 4096 et), (b0, kcI cI 10 eb), (c0, kcI cI 12 ec), (n0, kcI cI 10 en), (p0, kcI cI 120 ep), (s0, kcI cI 10 es)] sz) [(w0, oX10 tp ts wb h ph pd ps cr lr hd pk gs), (h, oX0 m1 m2 m3 mc sc tx nr ra ru dy wa se none), (m1, kcI cI 50 f1), (m2, kcI cI 72 f2), (m3, kcJ cJ 30 f3), (hd, oX3 t0 b0 c0 n0 p0 s0 n0_ n1_), (t0, kcJ cJ 4096 f2_), (b0, kcI cI 10 f3_), (c0, kcI cI 12 f4_), (n0, kcI cI 10 f5_), (p0, kcI cI 120 f6_), (s0, kcI cI 10 es)] t) (va_A [(w0, oX10 tp ts wb h ph pd ps cr lr hd pk gs), (h, oX0 m1 m2 m3 mc sc tx nr ra ru dy wa se none), (m1, kcI cI 50 f1), (m2, kcI cI 72 f2), (m3, kcJ cJ 30 f3), (hd, oX3 t0 b0 c0 n0 p0 s0 bc cc_), (t0, kcJ cJ 4096 et), (b0, kcI cI 10 eb), (c0, kcI cI 12 ec), (n0, kcI cI 10 en), (p0, kcI cI 120 ep), (s0, kcI cI 10 es)] sz)) 0 0 (va_A [(w0, oX10 tp ts wb h ph pd ps cr lr hd pk gs), (h, oX0 m1 m2 m3 mc sc tx nr ra ru dy wa se none), (m1, kcI cI 50 f1), (m2, kcI cI 72 f2), (m3, kcJ cJ 30 f3), (hd, oX3 t0 b0 c0 n0 p0 s0 bc cc_), (t0, kcJ cJ 4096 et), (b0, kcI cI 10 eb), (c0, kcI cI 12 ec), (n0, kcI cI 10 en), (p0, kcI cI 120 ep), (s0, kcI cI 10 es)] sz) := by
  refine Met.ofW (cc := cX10_least) (maxL := 1) (ret := (some .int)) (by decide) rfl ?_
  intro p e s m args below meth c s₁ B hml hv
  obtain ⟨rfl, hsz, hN, hE, hP, hK, hD0⟩ := hv
  have hx := B.exec
  have hb := B.bytes
  have hr := B.returns
  have hts := fun (w : Cond) (h : w ∈ kG) => atoms_spec (ws := kwX10_least) B.pre w (List.mem_cons_of_mem _ h)
  have hown : s.vm.findClass RX10 = some m.cls := findClass_of_methodNamed B.named
  subst hsz
  have hD := hD0.self (sz := s.heap.size)
  generalize hAe : va_A [(w0, oX10 tp ts wb h ph pd ps cr lr hd pk gs), (h, oX0 m1 m2 m3 mc sc tx nr ra ru dy wa se none), (m1, kcI cI 50 f1), (m2, kcI cI 72 f2), (m3, kcJ cJ 30 f3), (hd, oX3 t0 b0 c0 n0 p0 s0 bc cc_), (t0, kcJ cJ 4096 et), (b0, kcI cI 10 eb), (c0, kcI cI 12 ec), (n0, kcI cI 10 en), (p0, kcI cI 120 ep), (s0, kcI cI 10 es)] s.heap.size = A at hD hE ⊢
  have hA : ∀ q : Nat, s.heap.size ≤ q → A q := fun q h => by rw [← hAe]; exact Or.inr h
  have hl := lv_entry ([.ref w0]) (n := 1) (Nat.le_of_ble_eq_true rfl)
  rw [lg_entry_eq]
  generalize (lg_sl ([.ref w0]) ++ List.replicate (1 - (lg_sl ([.ref w0])).length) Slot.unset).toArray = ls at hl ⊢
  have hl : lv_has ls 1 [(0, .ref w0)] := hl
  obtain ⟨H, hH0⟩ : ∃ H, H = s.heap := ⟨_, rfl⟩
  have hS : va_S A s.heap H [] := by rw [hH0]; exact va_S.rf
  have hP : va_P D vwCl [(w0, oX10 tp ts wb h ph pd ps cr lr hd pk gs), (h, oX0 m1 m2 m3 mc sc tx nr ra ru dy wa se none), (m1, kcI cI 50 f1), (m2, kcI cI 72 f2), (m3, kcJ cJ 30 f3), (hd, oX3 t0 b0 c0 n0 p0 s0 bc cc_), (t0, kcJ cJ 4096 et), (b0, kcI cI 10 eb), (c0, kcI cI 12 ec), (n0, kcI cI 10 en), (p0, kcI cI 120 ep), (s0, kcI cI 10 es)] H := by rw [hH0]; exact hP
  refine kHeap hH0 ?_
  clear hH0
  refine lv_aload_n hx hb dX10_least_0 rfl (lv_at hl 0 rfl) ?_
  refine va_get (D := D) (ci := 9) (v := .ref hd) (C := RX10) (T := TX10) (N := 12) hx hb hts iG_X10 hown hK hP 0 rfl rfl 9 (by decide) (hts _ w1_14) (fun _ h9 => h9) rfl dX10_least_1 ?_
  refine lv_aload_n hx hb dX10_least_4 rfl (lv_at hl 0 rfl) ?_
  refine va_get (D := D) (ci := 9) (v := .ref h) (C := RX10) (T := TX10) (N := 12) hx hb hts iG_X10 hown hK hP 0 rfl rfl 3 (by decide) (hts _ w0_20) (fun _ h9 => h9) rfl dX10_least_5 ?_
  refine kcallv (wc := [(hd, oX3 t0 b0 c0 n0 p0 s0 bc cc_), (t0, kcJ cJ 4096 et), (b0, kcI cI 10 eb), (c0, kcI cI 12 ec), (n0, kcI cI 10 en), (p0, kcI cI 120 ep), (s0, kcI cI 10 es), (h, oX0 m1 m2 m3 mc sc tx nr ra ru dy wa se none), (m1, kcI cI 50 f1), (m2, kcI cI 72 f2), (m3, kcJ cJ 30 f3)]) (wr := [(w0, oX10 tp ts wb h ph pd ps cr lr hd pk gs)]) hP hD hS hA [5, 6, 7, 8, 9, 10, 11, 1, 2, 3, 4] [0] rfl rfl (by decide) (by decide) (by decide) (fun hPc hDc hFc => va_runVN (C := RX3) (As := [.ref h]) (rest := []) ⟨hx, hb, hml, hown, hts⟩ (z_Hand_look_n l D cI cJ cB cC hd t0 b0 c0 n0 p0 s0 bc cc_ et eb ec en ep es h m1 m2 m3 mc sc tx nr ra ru dy wa se f1 f2 f3 H.size) ⟨va_cnB 1 hts gX10_least_X3_look_n234 rfl rfl rfl (nM_16 hN) (hts _ w1_13) hdX3_look ⟨Nat.le_of_ble_eq_true rfl, Nat.le_of_ble_eq_true rfl⟩, hts _ w38_20, hts _ w38_21⟩ ⟨kBlind, va_recv hK hPc (ci := 3) (q0 := 0) rfl rfl, fun U hU hW => ⟨rfl, by rw [hU], hN.warm hW, hE.pass hS hFc hW hU, by rw [hU]; exact hPc, va_K.moved hW.alike hK, hDc⟩⟩ rfl rfl hl.1 rfl (lv_room (Nat.le_of_ble_eq_true rfl)) dX10_least_8 ⟨Nat.le_of_ble_eq_true rfl, Nat.le_of_ble_eq_true rfl⟩) (fun u H locs hw hP hD hS => ?_)
  obtain ⟨x1, x2, g3, g4, g5, g6⟩ := u
  have hP : va_P D vwCl [(w0, oX10 tp ts wb h ph pd ps cr lr hd pk gs), (hd, oX3 t0 b0 c0 n0 p0 s0 x1 x2), (t0, kcJ cJ 4096 et), (b0, kcI cI 10 g3), (c0, kcI cI 12 g4), (n0, kcI cI 10 g5), (p0, kcI cI 120 g6), (s0, kcI cI 10 es), (h, oX0 m1 m2 m3 mc sc tx nr ra ru dy wa se none), (m1, kcI cI 50 f1), (m2, kcI cI 72 f2), (m3, kcJ cJ 30 f3)] H := hP
  have hD : va_D A [(w0, oX10 tp ts wb h ph pd ps cr lr hd pk gs), (hd, oX3 t0 b0 c0 n0 p0 s0 x1 x2), (t0, kcJ cJ 4096 et), (b0, kcI cI 10 g3), (c0, kcI cI 12 g4), (n0, kcI cI 10 g5), (p0, kcI cI 120 g6), (s0, kcI cI 10 es), (h, oX0 m1 m2 m3 mc sc tx nr ra ru dy wa se none), (m1, kcI cI 50 f1), (m2, kcI cI 72 f2), (m3, kcJ cJ 30 f3)] := hD
  obtain ⟨k7, k8, k9⟩ := hw
  refine lv_aload_n hx hb dX10_least_11 rfl (lv_at hl 0 rfl) ?_
  refine va_get (D := D) (ci := 9) (v := .ref hd) (C := RX10) (T := TX10) (N := 12) hx hb hts iG_X10 hown hK hP 0 rfl rfl 9 (by decide) (hts _ w1_14) (fun _ h9 => h9) rfl dX10_least_12 ?_
  refine kcalli (wc := [(hd, oX3 t0 b0 c0 n0 p0 s0 x1 x2), (t0, kcJ cJ 4096 et), (b0, kcI cI 10 g3), (c0, kcI cI 12 g4), (n0, kcI cI 10 g5), (p0, kcI cI 120 g6), (s0, kcI cI 10 es)]) (wr := [(w0, oX10 tp ts wb h ph pd ps cr lr hd pk gs), (h, oX0 m1 m2 m3 mc sc tx nr ra ru dy wa se none), (m1, kcI cI 50 f1), (m2, kcI cI 72 f2), (m3, kcJ cJ 30 f3)]) hP hD hS hA [1, 2, 3, 4, 5, 6, 7] [0, 8, 9, 10, 11] rfl rfl (by decide) (by decide) (by decide) (fun hPc hDc hFc => va_runVN (C := RX3) (As := []) (rest := []) ⟨hx, hb, hml, hown, hts⟩ (z_Hand_leastPrice l D cI cJ cB cC hd t0 b0 c0 n0 p0 s0 x1 x2 et g3 g4 g5 g6 es H.size k7 k8) ⟨va_cnB 0 hts gX10_least_X3_leastPrice_n248 rfl rfl rfl (nM_29 hN) (hts _ w1_13) hdX3_leastPrice ⟨Nat.le_of_ble_eq_true rfl, Nat.le_of_ble_eq_true rfl⟩, hts _ w43_1, hts _ w43_2⟩ ⟨kBlind, va_recv hK hPc (ci := 3) (q0 := 0) rfl rfl, fun U hU hW => ⟨rfl, by rw [hU], hN.warm hW, hE.pass hS hFc hW hU, by rw [hU]; exact hPc, va_K.moved hW.alike hK, hDc⟩⟩ rfl rfl hl.1 rfl (lv_room (Nat.le_of_ble_eq_true rfl)) dX10_least_15 ⟨Nat.le_of_ble_eq_true rfl, Nat.le_of_ble_eq_true rfl⟩) (fun r10 u H locs hw hP hD hS => ?_)
  obtain ⟨g11, rfl⟩ : ∃ z, z = u := ⟨_, rfl⟩
  have hP : va_P D vwCl [(w0, oX10 tp ts wb h ph pd ps cr lr hd pk gs), (h, oX0 m1 m2 m3 mc sc tx nr ra ru dy wa se none), (m1, kcI cI 50 f1), (m2, kcI cI 72 f2), (m3, kcJ cJ 30 f3), (hd, oX3 t0 b0 c0 n0 p0 s0 x1 x2), (t0, kcJ cJ 4096 g11), (b0, kcI cI 10 g3), (c0, kcI cI 12 g4), (n0, kcI cI 10 g5), (p0, kcI cI 120 g6), (s0, kcI cI 10 es)] H := hP
  have hD : va_D A [(w0, oX10 tp ts wb h ph pd ps cr lr hd pk gs), (h, oX0 m1 m2 m3 mc sc tx nr ra ru dy wa se none), (m1, kcI cI 50 f1), (m2, kcI cI 72 f2), (m3, kcJ cJ 30 f3), (hd, oX3 t0 b0 c0 n0 p0 s0 x1 x2), (t0, kcJ cJ 4096 g11), (b0, kcI cI 10 g3), (c0, kcI cI 12 g4), (n0, kcI cI 10 g5), (p0, kcI cI 120 g6), (s0, kcI cI 10 es)] := hD
  have k12 := hw
  have hP9 := hP.sub (ws' := [(w0, oX10 tp ts wb h ph pd ps cr lr hd pk gs), (h, oX0 m1 m2 m3 mc sc tx nr ra ru dy wa se none), (m1, kcI cI 50 f1), (m2, kcI cI 72 f2), (m3, kcJ cJ 30 f3), (hd, oX3 t0 b0 c0 n0 p0 s0 x1 x2), (t0, kcJ cJ 4096 g11), (b0, kcI cI 10 g3), (c0, kcI cI 12 g4), (n0, kcI cI 10 g5), (p0, kcI cI 120 g6), (s0, kcI cI 10 es)]) [0, 1, 2, 3, 4, 5, 6, 7, 8, 9, 10, 11] rfl
  have hD9 := hD.sub (ws' := [(w0, oX10 tp ts wb h ph pd ps cr lr hd pk gs), (h, oX0 m1 m2 m3 mc sc tx nr ra ru dy wa se none), (m1, kcI cI 50 f1), (m2, kcI cI 72 f2), (m3, kcJ cJ 30 f3), (hd, oX3 t0 b0 c0 n0 p0 s0 x1 x2), (t0, kcJ cJ 4096 g11), (b0, kcI cI 10 g3), (c0, kcI cI 12 g4), (n0, kcI cI 10 g5), (p0, kcI cI 120 g6), (s0, kcI cI 10 es)]) [0, 1, 2, 3, 4, 5, 6, 7, 8, 9, 10, 11] (by decide) rfl
  exact W.iret (v := r10) hx hb hr (fun t ht hW => ⟨⟨r10, (x1, x2, g11, g3, g4, g5, g6), rfl, ⟨k7, k8, (kC_eq k9 (kC_eq rfl (kC_eq rfl (kC_eq rfl (kC_eq rfl (kC_eq k12 rfl))))))⟩, by rw [ht]; exact hP9, va_K.moved hW.alike hK, hD9⟩, hS.F ht⟩) hS.2.2 dX10_least_18

def kwX10_lack : List Cond := .code yX10_lack cX10_lack 1 (some .int) :: kG
theorem hdX10_lack : yX10_lack.cls ≠ "java/lang/invoke/MethodHandle" ∧ yX10_lack.cls ≠ "java/lang/invoke/VarHandle" ∧ (parseMethodDescriptor yX10_lack.desc).map (fun d => d.parameters.length) = some 0 := by decide +kernel
theorem gX10_lack_X3_look_n234 : GoodIn kG (kwX3_look) := gK w38_22 gGG
theorem gX10_lack_X3_shortMen_n251 : GoodIn kG (kwX3_shortMen) := gK w43_14 gGG
theorem dX10_lack_0 : decode cX10_lack 0 = .ok (.aload_n 0, 1) := by decide +kernel
theorem dX10_lack_1 : decode cX10_lack 1 = .ok (.getfield 58, 3) := by decide +kernel
theorem dX10_lack_4 : decode cX10_lack 4 = .ok (.aload_n 0, 1) := by decide +kernel
theorem dX10_lack_5 : decode cX10_lack 5 = .ok (.getfield 23, 3) := by decide +kernel
theorem dX10_lack_8 : decode cX10_lack 8 = .ok (.invokevirtual 234, 3) := by decide +kernel
theorem dX10_lack_11 : decode cX10_lack 11 = .ok (.aload_n 0, 1) := by decide +kernel
theorem dX10_lack_12 : decode cX10_lack 12 = .ok (.getfield 58, 3) := by decide +kernel
theorem dX10_lack_15 : decode cX10_lack 15 = .ok (.invokevirtual 251, 3) := by decide +kernel
theorem dX10_lack_18 : decode cX10_lack 18 = .ok (.ireturn, 1) := by decide +kernel
set_option maxHeartbeats 4000000 in
set_option maxRecDepth 100000 in
/-- ShirtWash.lack (n) -/
theorem z_SW_lack_n (l : Launch) (D : va_G) (cI cJ cB cC : ClassId) (w0 : Nat) (tp : Nat) (ts : Int32) (wb : Int32) (ph : Nat) (pd : Int32) (ps : Nat) (cr : Nat) (lr : Nat) (hd : Nat) (pk : Nat) (gs : Nat) (h : Nat) (m1 : Nat) (m2 : Nat) (m3 : Nat) (mc : Int32) (sc : Int32) (tx : Int32) (nr : Int32) (ra : Int32) (ru : Int32) (dy : Int32) (wa : Int32) (se : Int32) (f1 : Nat → Int32) (f2 : Nat → Int32) (f3 : Nat → Int64) (t0 : Nat) (b0 : Nat) (c0 : Nat) (n0 : Nat) (p0 : Nat) (s0 : Nat) (bc : Int32) (cc_ : Int32) (et : Nat → Int64) (eb : Nat → Int32) (ec : Nat → Int32) (en : Nat → Int32) (ep : Nat → Int32) (es : Nat → Int32) (sz : Nat)  : Met l yX10_lack kwX10_lack ({ frames := 6, cells := 0, slots := 0, locals := 137 } : Room) (kPre D (kT cI cJ cB cC) sz [(w0, oX10 tp ts wb h ph pd ps cr lr hd pk gs), (h, oX0 m1 m2 m3 mc sc tx nr ra ru dy wa se none), (m1, kcI cI 50 f1), (m2, kcI cI 72 f2), (m3, kcJ cJ 30 f3), (hd, oX3 t0 b0 c0 n0 p0 s0 bc cc_), (t0, kcJ cJ 4096 et), (b0, kcI cI 10 eb), (c0, kcI cI 12 ec), (n0, kcI cI 10 en), (p0, kcI cI 120 ep), (s0, kcI cI 10 es)] [.ref w0]) (va_Qi (fun (r : Int32) (uu : Int32 × Int32 × (Nat → Int32) × (Nat → Int32) × (Nat → Int32) × (Nat → Int32)) => match uu with | (n0_, n1_, f2_, f3_, f4_, f5_) => Rg n0_ 0 10 ∧ Rg n1_ 0 12 ∧ F_z_SW_lack_n (mc : Int32).toInt (sc : Int32).toInt (nr : Int32).toInt (gT f1) (gT f2) f3 (gT eb) (gT ec) (gT en) (gT ep) = ((r : Int32).toInt, (n0_ : Int32).toInt, (n1_ : Int32).toInt, (gT f2_), (gT f3_), (gT f4_), (gT f5_))) (fun (uu : Int32 × Int32 × (Nat → Int32) × (Nat → Int32) × (Nat → Int32) × (Nat → Int32)) (t : State) => match uu with | (n0_, n1_, f2_, f3_, f4_, f5_) => kB D (kT cI cJ cB cC) (va_A [(w0, oX10 tp ts wb h ph pd ps cr lr hd pk gs), (h, oX0 m1 m2 m3 mc sc tx nr ra ru dy wa se none), (m1, kcI cI 50 f1), (m2, kcI cI 72 f2), (m3, kcJ cJ 30 f3), (hd, oX3 t0 b0 c0 n0 p0 s0 bc cc_), (t0, kcJ cJ 4096 et), (b0, kcI cI 10 eb), (c0, kcI cI 12 ec), (n0, kcI cI 10 en), (p0, kcI cI 120 ep), (s0, kcI cI 10 es)] sz) [(w0, oX10 tp ts wb h ph pd ps cr lr hd pk gs), (h, oX0 m1 m2 m3 mc sc tx nr ra ru dy wa se none), (m1, kcI cI 50 f1), (m2, kcI cI 72 f2), (m3, kcJ cJ 30 f3), (hd, oX3 t0 b0 c0 n0 p0 s0 n0_ n1_), (t0, kcJ cJ 4096 et), (b0, kcI cI 10 f2_), (c0, kcI cI 12 f3_), (n0, kcI cI 10 f4_), (p0, kcI cI 120 f5_), (s0, kcI cI 10 es)] t) (va_A [(w0, oX10 tp ts wb h ph pd ps cr lr hd pk gs), (h, oX0 m1 m2 m3 mc sc tx nr ra ru dy wa se none), (m1, kcI cI 50 f1), (m2, kcI cI 72 f2), (m3, kcJ cJ 30 f3), (hd, oX3 t0 b0 c0 n0 p0 s0 bc cc_), (t0, kcJ cJ 4096 et), (b0, kcI cI 10 eb), (c0, kcI cI 12 ec), (n0, kcI cI 10 en), (p0, kcI cI 120 ep), (s0, kcI cI 10 es)] sz)) 0 0 (va_A [(w0, oX10 tp ts wb h ph pd ps cr lr hd pk gs), (h, oX0 m1 m2 m3 mc sc tx nr ra ru dy wa se none), (m1, kcI cI 50 f1), (m2, kcI cI 72 f2), (m3, kcJ cJ 30 f3), (hd, oX3 t0 b0 c0 n0 p0 s0 bc cc_), (t0, kcJ cJ 4096 et), (b0, kcI cI 10 eb), (c0, kcI cI 12 ec), (n0, kcI cI 10 en), (p0, kcI cI 120 ep), (s0, kcI cI 10 es)] sz) := by
  refine Met.ofW (cc := cX10_lack) (maxL := 1) (ret := (some .int)) (by decide) rfl ?_
  intro p e s m args below meth c s₁ B hml hv
  obtain ⟨rfl, hsz, hN, hE, hP, hK, hD0⟩ := hv
  have hx := B.exec
  have hb := B.bytes
  have hr := B.returns
  have hts := fun (w : Cond) (h : w ∈ kG) => atoms_spec (ws := kwX10_lack) B.pre w (List.mem_cons_of_mem _ h)
  have hown : s.vm.findClass RX10 = some m.cls := findClass_of_methodNamed B.named
  subst hsz
  have hD := hD0.self (sz := s.heap.size)
  generalize hAe : va_A [(w0, oX10 tp ts wb h ph pd ps cr lr hd pk gs), (h, oX0 m1 m2 m3 mc sc tx nr ra ru dy wa se none), (m1, kcI cI 50 f1), (m2, kcI cI 72 f2), (m3, kcJ cJ 30 f3), (hd, oX3 t0 b0 c0 n0 p0 s0 bc cc_), (t0, kcJ cJ 4096 et), (b0, kcI cI 10 eb), (c0, kcI cI 12 ec), (n0, kcI cI 10 en), (p0, kcI cI 120 ep), (s0, kcI cI 10 es)] s.heap.size = A at hD hE ⊢
  have hA : ∀ q : Nat, s.heap.size ≤ q → A q := fun q h => by rw [← hAe]; exact Or.inr h
  have hl := lv_entry ([.ref w0]) (n := 1) (Nat.le_of_ble_eq_true rfl)
  rw [lg_entry_eq]
  generalize (lg_sl ([.ref w0]) ++ List.replicate (1 - (lg_sl ([.ref w0])).length) Slot.unset).toArray = ls at hl ⊢
  have hl : lv_has ls 1 [(0, .ref w0)] := hl
  obtain ⟨H, hH0⟩ : ∃ H, H = s.heap := ⟨_, rfl⟩
  have hS : va_S A s.heap H [] := by rw [hH0]; exact va_S.rf
  have hP : va_P D vwCl [(w0, oX10 tp ts wb h ph pd ps cr lr hd pk gs), (h, oX0 m1 m2 m3 mc sc tx nr ra ru dy wa se none), (m1, kcI cI 50 f1), (m2, kcI cI 72 f2), (m3, kcJ cJ 30 f3), (hd, oX3 t0 b0 c0 n0 p0 s0 bc cc_), (t0, kcJ cJ 4096 et), (b0, kcI cI 10 eb), (c0, kcI cI 12 ec), (n0, kcI cI 10 en), (p0, kcI cI 120 ep), (s0, kcI cI 10 es)] H := by rw [hH0]; exact hP
  refine kHeap hH0 ?_
  clear hH0
  refine lv_aload_n hx hb dX10_lack_0 rfl (lv_at hl 0 rfl) ?_
  refine va_get (D := D) (ci := 9) (v := .ref hd) (C := RX10) (T := TX10) (N := 12) hx hb hts iG_X10 hown hK hP 0 rfl rfl 9 (by decide) (hts _ w1_14) (fun _ h9 => h9) rfl dX10_lack_1 ?_
  refine lv_aload_n hx hb dX10_lack_4 rfl (lv_at hl 0 rfl) ?_
  refine va_get (D := D) (ci := 9) (v := .ref h) (C := RX10) (T := TX10) (N := 12) hx hb hts iG_X10 hown hK hP 0 rfl rfl 3 (by decide) (hts _ w0_20) (fun _ h9 => h9) rfl dX10_lack_5 ?_
  refine kcallv (wc := [(hd, oX3 t0 b0 c0 n0 p0 s0 bc cc_), (t0, kcJ cJ 4096 et), (b0, kcI cI 10 eb), (c0, kcI cI 12 ec), (n0, kcI cI 10 en), (p0, kcI cI 120 ep), (s0, kcI cI 10 es), (h, oX0 m1 m2 m3 mc sc tx nr ra ru dy wa se none), (m1, kcI cI 50 f1), (m2, kcI cI 72 f2), (m3, kcJ cJ 30 f3)]) (wr := [(w0, oX10 tp ts wb h ph pd ps cr lr hd pk gs)]) hP hD hS hA [5, 6, 7, 8, 9, 10, 11, 1, 2, 3, 4] [0] rfl rfl (by decide) (by decide) (by decide) (fun hPc hDc hFc => va_runVN (C := RX3) (As := [.ref h]) (rest := []) ⟨hx, hb, hml, hown, hts⟩ (z_Hand_look_n l D cI cJ cB cC hd t0 b0 c0 n0 p0 s0 bc cc_ et eb ec en ep es h m1 m2 m3 mc sc tx nr ra ru dy wa se f1 f2 f3 H.size) ⟨va_cnB 1 hts gX10_lack_X3_look_n234 rfl rfl rfl (nM_16 hN) (hts _ w1_13) hdX3_look ⟨Nat.le_of_ble_eq_true rfl, Nat.le_of_ble_eq_true rfl⟩, hts _ w38_20, hts _ w38_21⟩ ⟨kBlind, va_recv hK hPc (ci := 3) (q0 := 0) rfl rfl, fun U hU hW => ⟨rfl, by rw [hU], hN.warm hW, hE.pass hS hFc hW hU, by rw [hU]; exact hPc, va_K.moved hW.alike hK, hDc⟩⟩ rfl rfl hl.1 rfl (lv_room (Nat.le_of_ble_eq_true rfl)) dX10_lack_8 ⟨Nat.le_of_ble_eq_true rfl, Nat.le_of_ble_eq_true rfl⟩) (fun u H locs hw hP hD hS => ?_)
  obtain ⟨x1, x2, g3, g4, g5, g6⟩ := u
  have hP : va_P D vwCl [(w0, oX10 tp ts wb h ph pd ps cr lr hd pk gs), (hd, oX3 t0 b0 c0 n0 p0 s0 x1 x2), (t0, kcJ cJ 4096 et), (b0, kcI cI 10 g3), (c0, kcI cI 12 g4), (n0, kcI cI 10 g5), (p0, kcI cI 120 g6), (s0, kcI cI 10 es), (h, oX0 m1 m2 m3 mc sc tx nr ra ru dy wa se none), (m1, kcI cI 50 f1), (m2, kcI cI 72 f2), (m3, kcJ cJ 30 f3)] H := hP
  have hD : va_D A [(w0, oX10 tp ts wb h ph pd ps cr lr hd pk gs), (hd, oX3 t0 b0 c0 n0 p0 s0 x1 x2), (t0, kcJ cJ 4096 et), (b0, kcI cI 10 g3), (c0, kcI cI 12 g4), (n0, kcI cI 10 g5), (p0, kcI cI 120 g6), (s0, kcI cI 10 es), (h, oX0 m1 m2 m3 mc sc tx nr ra ru dy wa se none), (m1, kcI cI 50 f1), (m2, kcI cI 72 f2), (m3, kcJ cJ 30 f3)] := hD
  obtain ⟨k7, k8, k9⟩ := hw
  refine lv_aload_n hx hb dX10_lack_11 rfl (lv_at hl 0 rfl) ?_
  refine va_get (D := D) (ci := 9) (v := .ref hd) (C := RX10) (T := TX10) (N := 12) hx hb hts iG_X10 hown hK hP 0 rfl rfl 9 (by decide) (hts _ w1_14) (fun _ h9 => h9) rfl dX10_lack_12 ?_
  refine kpurei (wc := [(hd, oX3 t0 b0 c0 n0 p0 s0 x1 x2), (t0, kcJ cJ 4096 et), (b0, kcI cI 10 g3), (c0, kcI cI 12 g4), (n0, kcI cI 10 g5), (p0, kcI cI 120 g6), (s0, kcI cI 10 es)]) hP hD hS hA [1, 2, 3, 4, 5, 6, 7] rfl (by decide) (fun hPc hDc hFc => va_runVN (C := RX3) (As := []) (rest := []) ⟨hx, hb, hml, hown, hts⟩ (z_Hand_shortMen l D cI cJ cB cC hd t0 b0 c0 n0 p0 s0 x1 x2 et g3 g4 g5 g6 es H.size k7 k8) ⟨va_cnB 0 hts gX10_lack_X3_shortMen_n251 rfl rfl rfl (nM_30 hN) (hts _ w1_13) hdX3_shortMen ⟨Nat.le_of_ble_eq_true rfl, Nat.le_of_ble_eq_true rfl⟩, hts _ w43_12, hts _ w43_13⟩ ⟨kBlind, va_recv hK hPc (ci := 3) (q0 := 0) rfl rfl, fun U hU hW => ⟨rfl, by rw [hU], hN.warm hW, hE.pass hS hFc hW hU, by rw [hU]; exact hPc, va_K.moved hW.alike hK, hDc⟩⟩ rfl rfl hl.1 rfl (lv_room (Nat.le_of_ble_eq_true rfl)) dX10_lack_15 ⟨Nat.le_of_ble_eq_true rfl, Nat.le_of_ble_eq_true rfl⟩) (fun r10 u H locs hw hP hS => ?_)
  have k11 := hw
  have hP9 := hP.sub (ws' := [(w0, oX10 tp ts wb h ph pd ps cr lr hd pk gs), (h, oX0 m1 m2 m3 mc sc tx nr ra ru dy wa se none), (m1, kcI cI 50 f1), (m2, kcI cI 72 f2), (m3, kcJ cJ 30 f3), (hd, oX3 t0 b0 c0 n0 p0 s0 x1 x2), (t0, kcJ cJ 4096 et), (b0, kcI cI 10 g3), (c0, kcI cI 12 g4), (n0, kcI cI 10 g5), (p0, kcI cI 120 g6), (s0, kcI cI 10 es)]) [0, 8, 9, 10, 11, 1, 2, 3, 4, 5, 6, 7] rfl
  have hD9 := hD.sub (ws' := [(w0, oX10 tp ts wb h ph pd ps cr lr hd pk gs), (h, oX0 m1 m2 m3 mc sc tx nr ra ru dy wa se none), (m1, kcI cI 50 f1), (m2, kcI cI 72 f2), (m3, kcJ cJ 30 f3), (hd, oX3 t0 b0 c0 n0 p0 s0 x1 x2), (t0, kcJ cJ 4096 et), (b0, kcI cI 10 g3), (c0, kcI cI 12 g4), (n0, kcI cI 10 g5), (p0, kcI cI 120 g6), (s0, kcI cI 10 es)]) [0, 8, 9, 10, 11, 1, 2, 3, 4, 5, 6, 7] (by decide) rfl
  exact W.iret (v := r10) hx hb hr (fun t ht hW => ⟨⟨r10, (x1, x2, g3, g4, g5, g6), rfl, ⟨k7, k8, (kC_eq k9 (kC_eq rfl (kC_eq rfl (kC_eq rfl (kC_eq rfl (kLet_eq (k11).symm rfl))))))⟩, by rw [ht]; exact hP9, va_K.moved hW.alike hK, hD9⟩, hS.F ht⟩) hS.2.2 dX10_lack_18

set_option maxHeartbeats 4000000 in
set_option maxRecDepth 100000 in
/-- ShirtWash.barred (s) -/
theorem z_SW_barred_s (l : Launch) (hst : l.stackTraces = false) (D : va_G) (cI cJ cB cC : ClassId) (w0 : Nat) (tp : Nat) (ts : Int32) (wb : Int32) (ph : Nat) (pd : Int32) (ps : Nat) (cr : Nat) (lr : Nat) (hd : Nat) (pk : Nat) (gs : Nat) (h : Nat) (m1 : Nat) (m2 : Nat) (m3 : Nat) (mc : Int32) (sc : Int32) (tx : Int32) (nr : Int32) (ra : Int32) (ru : Int32) (dy : Int32) (wa : Int32) (se : Int32) (f1 : Nat → Int32) (f2 : Nat → Int32) (f3 : Nat → Int64) (l0 : Nat) (l1 : Nat) (l2 : Nat) (l3 : Nat) (l4 : Nat) (M1 : Nat) (M2 : Nat) (M3 : Nat) (y1_ : Nat → Int32) (y2_ : Nat → Int32) (y3_ : Nat → Int32) (y4_ : Nat → Int32) (a1 : Int32) (b1 : Int32) (sz : Nat)  : vx_Met l yX10_barred kwX10_barred ({ frames := 6, cells := 1, slots := 6, locals := 113 } : Room) (kPre D (kT cI cJ cB cC) sz [(w0, oX10 tp ts wb h ph pd ps cr lr hd pk gs), (h, oX0 m1 m2 m3 mc sc tx nr ra ru dy wa se (some l0)), (m1, kcI cI 50 f1), (m2, kcI cI 72 f2), (m3, kcJ cJ 30 f3), (l0, oX4 l1 l2 l3 l4), (l1, kcI cI M1 y1_), (l2, kcI cI M2 y2_), (l3, kcI cI M3 y3_), (l4, kcI cI 28 y4_)] [.ref w0, .int a1, .int b1]) (va_Qi (fun (r : Int32) (f0_ : (Nat → Int32)) => Rg r 0 1 ∧ F_z_SW_barred_s (mc : Int32).toInt (sc : Int32).toInt (nr : Int32).toInt (wa : Int32).toInt (gT f1) (gT f2) f3 M1 M2 M3 (gT y1_) (gT y2_) (gT y3_) (gT y4_) (a1 : Int32).toInt (b1 : Int32).toInt = Sum.inl ((r : Int32).toInt, (gT f0_))) (fun (f0_ : (Nat → Int32)) (t : State) => kB D (kT cI cJ cB cC) (va_A [(w0, oX10 tp ts wb h ph pd ps cr lr hd pk gs), (h, oX0 m1 m2 m3 mc sc tx nr ra ru dy wa se (some l0)), (m1, kcI cI 50 f1), (m2, kcI cI 72 f2), (m3, kcJ cJ 30 f3), (l0, oX4 l1 l2 l3 l4), (l1, kcI cI M1 y1_), (l2, kcI cI M2 y2_), (l3, kcI cI M3 y3_), (l4, kcI cI 28 y4_)] sz) [(w0, oX10 tp ts wb h ph pd ps cr lr hd pk gs), (h, oX0 m1 m2 m3 mc sc tx nr ra ru dy wa se (some l0)), (m1, kcI cI 50 f1), (m2, kcI cI 72 f2), (m3, kcJ cJ 30 f3), (l0, oX4 l1 l2 l3 l4), (l1, kcI cI M1 y1_), (l2, kcI cI M2 y2_), (l3, kcI cI M3 y3_), (l4, kcI cI 28 f0_)] t) (va_A [(w0, oX10 tp ts wb h ph pd ps cr lr hd pk gs), (h, oX0 m1 m2 m3 mc sc tx nr ra ru dy wa se (some l0)), (m1, kcI cI 50 f1), (m2, kcI cI 72 f2), (m3, kcJ cJ 30 f3), (l0, oX4 l1 l2 l3 l4), (l1, kcI cI M1 y1_), (l2, kcI cI M2 y2_), (l3, kcI cI M3 y3_), (l4, kcI cI 28 y4_)] sz)) (vx_X (fun (_ : Unit) => (∃ c9 : Int, F_z_SW_barred_s (mc : Int32).toInt (sc : Int32).toInt (nr : Int32).toInt (wa : Int32).toInt (gT f1) (gT f2) f3 M1 M2 M3 (gT y1_) (gT y2_) (gT y3_) (gT y4_) (a1 : Int32).toInt (b1 : Int32).toInt = Sum.inr (c9, ()))) (fun (E : String) (_ : Unit) (t : State) => (E = "java/lang/IndexOutOfBoundsException" ∧ kXc (F_z_SW_barred_s (mc : Int32).toInt (sc : Int32).toInt (nr : Int32).toInt (wa : Int32).toInt (gT f1) (gT f2) f3 M1 M2 M3 (gT y1_) (gT y2_) (gT y3_) (gT y4_) (a1 : Int32).toInt (b1 : Int32).toInt) = 1) ∧ kB D (kT cI cJ cB cC) (va_A [(w0, oX10 tp ts wb h ph pd ps cr lr hd pk gs), (h, oX0 m1 m2 m3 mc sc tx nr ra ru dy wa se (some l0)), (m1, kcI cI 50 f1), (m2, kcI cI 72 f2), (m3, kcJ cJ 30 f3), (l0, oX4 l1 l2 l3 l4), (l1, kcI cI M1 y1_), (l2, kcI cI M2 y2_), (l3, kcI cI M3 y3_), (l4, kcI cI 28 y4_)] sz) [(w0, oX10 tp ts wb h ph pd ps cr lr hd pk gs), (h, oX0 m1 m2 m3 mc sc tx nr ra ru dy wa se (some l0)), (m1, kcI cI 50 f1), (m2, kcI cI 72 f2), (m3, kcJ cJ 30 f3), (l0, oX4 l1 l2 l3 l4), (l1, kcI cI M1 y1_), (l2, kcI cI M2 y2_), (l3, kcI cI M3 y3_), (l4, kcI cI 28 y4_)] t) (va_A [(w0, oX10 tp ts wb h ph pd ps cr lr hd pk gs), (h, oX0 m1 m2 m3 mc sc tx nr ra ru dy wa se (some l0)), (m1, kcI cI 50 f1), (m2, kcI cI 72 f2), (m3, kcJ cJ 30 f3), (l0, oX4 l1 l2 l3 l4), (l1, kcI cI M1 y1_), (l2, kcI cI M2 y2_), (l3, kcI cI M3 y3_), (l4, kcI cI 28 y4_)] sz)) 1 6 (va_A [(w0, oX10 tp ts wb h ph pd ps cr lr hd pk gs), (h, oX0 m1 m2 m3 mc sc tx nr ra ru dy wa se (some l0)), (m1, kcI cI 50 f1), (m2, kcI cI 72 f2), (m3, kcJ cJ 30 f3), (l0, oX4 l1 l2 l3 l4), (l1, kcI cI M1 y1_), (l2, kcI cI M2 y2_), (l3, kcI cI M3 y3_), (l4, kcI cI 28 y4_)] sz) := by
  refine vx_ofW (cc := cX10_barred) (maxL := 3) (ret := (some .boolean)) (by decide) rfl ?_
  intro p e s m args below meth c s₁ B hml hnt hv
  obtain ⟨rfl, hsz, hN, hE, hP, hK, hD0⟩ := hv
  have hx := B.exec
  have hb := B.bytes
  have hr := B.returns
  have hts := fun (w : Cond) (h : w ∈ kG) => atoms_spec (ws := kwX10_barred) B.pre w (List.mem_cons_of_mem _ h)
  have hown : s.vm.findClass RX10 = some m.cls := findClass_of_methodNamed B.named
  subst hsz
  have hD := hD0.self (sz := s.heap.size)
  generalize hAe : va_A [(w0, oX10 tp ts wb h ph pd ps cr lr hd pk gs), (h, oX0 m1 m2 m3 mc sc tx nr ra ru dy wa se (some l0)), (m1, kcI cI 50 f1), (m2, kcI cI 72 f2), (m3, kcJ cJ 30 f3), (l0, oX4 l1 l2 l3 l4), (l1, kcI cI M1 y1_), (l2, kcI cI M2 y2_), (l3, kcI cI M3 y3_), (l4, kcI cI 28 y4_)] s.heap.size = A at hD hE ⊢
  have hXd := hE.1
  have hX := hXd.1
  have hC := hE.2.1.1
  have hA : ∀ q : Nat, s.heap.size ≤ q → A q := fun q h => by rw [← hAe]; exact Or.inr h
  have hl := lv_entry ([.ref w0, .int a1, .int b1]) (n := 3) (Nat.le_of_ble_eq_true rfl)
  rw [lg_entry_eq]
  generalize (lg_sl ([.ref w0, .int a1, .int b1]) ++ List.replicate (3 - (lg_sl ([.ref w0, .int a1, .int b1])).length) Slot.unset).toArray = ls at hl ⊢
  have hl : lv_has ls 3 [(0, .ref w0), (1, .int a1), (2, .int b1)] := hl
  obtain ⟨H, hH0⟩ : ∃ H, H = s.heap := ⟨_, rfl⟩
  have hS : va_S A s.heap H [] := by rw [hH0]; exact va_S.rf
  have hP : va_P D vwCl [(w0, oX10 tp ts wb h ph pd ps cr lr hd pk gs), (h, oX0 m1 m2 m3 mc sc tx nr ra ru dy wa se (some l0)), (m1, kcI cI 50 f1), (m2, kcI cI 72 f2), (m3, kcJ cJ 30 f3), (l0, oX4 l1 l2 l3 l4), (l1, kcI cI M1 y1_), (l2, kcI cI M2 y2_), (l3, kcI cI M3 y3_), (l4, kcI cI 28 y4_)] H := by rw [hH0]; exact hP
  refine kHeap hH0 ?_
  clear hH0
  refine lv_aload_n hx hb dX10_barred_0 rfl (lv_at hl 0 rfl) ?_
  refine va_get (D := D) (ci := 9) (v := .ref h) (C := RX10) (T := TX10) (N := 12) hx hb hts iG_X10 hown hK hP 0 rfl rfl 3 (by decide) (hts _ w0_20) (fun _ h9 => h9) rfl dX10_barred_1 ?_
  refine lv_iload_n hx hb dX10_barred_4 rfl (lv_at hl 1 rfl) ?_
  refine kpurei (wc := [(h, oX0 m1 m2 m3 mc sc tx nr ra ru dy wa se (some l0)), (m1, kcI cI 50 f1), (m2, kcI cI 72 f2), (m3, kcJ cJ 30 f3)]) hP hD hS hA [1, 2, 3, 4] rfl (by decide) (fun hPc hDc hFc => va_runVN (C := RX0) (As := [.int a1]) (rest := []) ⟨hx, hb, hml, hown, hts⟩ (z_Camp_isMan l D cI cJ cB cC h m1 m2 m3 mc sc tx nr ra ru dy wa se (some l0) f1 f2 f3 a1 H.size) ⟨va_cnB 1 hts gX10_barred_X0_isMan_n136 rfl rfl rfl (nM_58 hN) (hts _ w0_19) hdX0_isMan ⟨Nat.le_of_ble_eq_true rfl, Nat.le_of_ble_eq_true rfl⟩, hts _ w14_18, hts _ w14_19⟩ ⟨kBlind, va_recv hK hPc (ci := 0) (q0 := 0) rfl rfl, fun U hU hW => ⟨rfl, by rw [hU], hN.warm hW, hE.pass hS hFc hW hU, by rw [hU]; exact hPc, va_K.moved hW.alike hK, hDc⟩⟩ rfl rfl hl.1 rfl (lv_room (Nat.le_of_ble_eq_true rfl)) dX10_barred_5 ⟨Nat.le_of_ble_eq_true rfl, Nat.le_of_ble_eq_true rfl⟩) (fun r1 u H locs hw hP hS => ?_)
  obtain ⟨k2, hw⟩ := hw
  rcases hw with rfl | ⟨rfl, kc3_0, kc3_1⟩
  · skip
    refine lv_if_eq (tgt := 22) hx hb dX10_barred_8 (by decide) (fun _ => ?_) (fun c5 => absurd (by decide) c5)
    obtain ⟨sa, hsa⟩ := hX.2.2.1 ("ShirtWash", 168, "no such man or shirt") (List.mem_of_getElem? (i := 5) rfl)
    have hP9 := hP.sub (ws' := [(w0, oX10 tp ts wb h ph pd ps cr lr hd pk gs), (h, oX0 m1 m2 m3 mc sc tx nr ra ru dy wa se (some l0)), (m1, kcI cI 50 f1), (m2, kcI cI 72 f2), (m3, kcJ cJ 30 f3), (l0, oX4 l1 l2 l3 l4), (l1, kcI cI M1 y1_), (l2, kcI cI M2 y2_), (l3, kcI cI M3 y3_), (l4, kcI cI 28 y4_)]) [0, 1, 2, 3, 4, 5, 6, 7, 8, 9] rfl
    have hD9 := hD.sub (ws' := [(w0, oX10 tp ts wb h ph pd ps cr lr hd pk gs), (h, oX0 m1 m2 m3 mc sc tx nr ra ru dy wa se (some l0)), (m1, kcI cI 50 f1), (m2, kcI cI 72 f2), (m3, kcJ cJ 30 f3), (l0, oX4 l1 l2 l3 l4), (l1, kcI cI M1 y1_), (l2, kcI cI M2 y2_), (l3, kcI cI M3 y3_), (l4, kcI cI 28 y4_)]) [0, 1, 2, 3, 4, 5, 6, 7, 8, 9] (by decide) rfl
    have hXF : F_z_SW_barred_s mc.toInt sc.toInt nr.toInt wa.toInt (gT f1) (gT f2) f3 M1 M2 M3 (gT y1_) (gT y2_) (gT y3_) (gT y4_) a1.toInt b1.toInt = Sum.inr (1, ()) := (kLet_eq (k2).symm (kif_t rfl rfl))
    exact vx_throwS (A := A) (text := "no such man or shirt") (cls := "java/lang/IndexOutOfBoundsException") (names := ["java/lang/RuntimeException", "java/lang/Exception"]) hx hb hst hown (by decide) (by decide) (hts _ w26_10) (hts _ w26_11) hsa (vx_hat (B := Cond.castable "java/lang/IndexOutOfBoundsException" "java/lang/IndexOutOfBoundsException" :: kDec.map Cond.declares) (fun w hw => hts w (kx143_g w hw)) kx143_b (kXB_0 hXd)) kx143_o hX.1 hX.2.1 hS (hl.1.trans hml.symm) dX10_barred_22 dX10_barred_25 dX10_barred_26 dX10_barred_28 dX10_barred_31 (fun x hx => (hnt x hx).elim) (Nat.le_of_ble_eq_true rfl) (Nat.le_of_ble_eq_true rfl) (Nat.le_of_ble_eq_true rfl) (Nat.le_of_ble_eq_true rfl) B.notSynchronized (fun t hvm hz hk => ⟨(), ⟨_, hXF⟩, ⟨⟨rfl, kXc_eq hXF⟩, fun k9 q9 h9 => (hP9 k9 q9 h9).kept (hk q9.1 (hP9 k9 q9 h9).lt), va_K.moved hvm hK, hD9⟩, Nat.le_trans hS.1 hz, fun q h1 h2 => (hk q (Nat.lt_of_lt_of_le h1 hS.1)).trans (hS.2.1 q h1 h2)⟩) hS.2.2 (Nat.le_of_ble_eq_true rfl) (Nat.le_of_ble_eq_true rfl)
  · skip
    refine lv_if_eq (tgt := 22) hx hb dX10_barred_8 (by decide) (fun c16 => absurd c16 (by decide)) (fun _ => ?_)
    refine lv_aload_n hx hb dX10_barred_11 rfl (lv_at hl 0 rfl) ?_
    refine va_get (D := D) (ci := 9) (v := .ref h) (C := RX10) (T := TX10) (N := 12) hx hb hts iG_X10 hown hK hP 0 rfl rfl 3 (by decide) (hts _ w0_20) (fun _ h9 => h9) rfl dX10_barred_12 ?_
    refine lv_iload_n hx hb dX10_barred_15 rfl (lv_at hl 2 rfl) ?_
    refine kpurei (wc := [(h, oX0 m1 m2 m3 mc sc tx nr ra ru dy wa se (some l0)), (m1, kcI cI 50 f1), (m2, kcI cI 72 f2), (m3, kcJ cJ 30 f3)]) hP hD hS hA [1, 2, 3, 4] rfl (by decide) (fun hPc hDc hFc => va_runVN (C := RX0) (As := [.int b1]) (rest := []) ⟨hx, hb, hml, hown, hts⟩ (z_Camp_isShirt l D cI cJ cB cC h m1 m2 m3 mc sc tx nr ra ru dy wa se (some l0) f1 f2 f3 b1 H.size) ⟨va_cnB 1 hts gX10_barred_X0_isShirt_n157 rfl rfl rfl (nM_61 hN) (hts _ w0_19) hdX0_isShirt ⟨Nat.le_of_ble_eq_true rfl, Nat.le_of_ble_eq_true rfl⟩, hts _ w15_4, hts _ w15_5⟩ ⟨kBlind, va_recv hK hPc (ci := 0) (q0 := 0) rfl rfl, fun U hU hW => ⟨rfl, by rw [hU], hN.warm hW, hE.pass hS hFc hW hU, by rw [hU]; exact hPc, va_K.moved hW.alike hK, hDc⟩⟩ rfl rfl hl.1 rfl (lv_room (Nat.le_of_ble_eq_true rfl)) dX10_barred_16 ⟨Nat.le_of_ble_eq_true rfl, Nat.le_of_ble_eq_true rfl⟩) (fun r17 u H locs hw hP hS => ?_)
    obtain ⟨k18, hw⟩ := hw
    rcases hw with rfl | ⟨rfl, kc19_0, kc19_1⟩
    · skip
      refine lv_if_ne (tgt := 32) hx hb dX10_barred_19 (by decide) (fun c20 => absurd (by decide) c20) (fun _ => ?_)
      obtain ⟨sa, hsa⟩ := hX.2.2.1 ("ShirtWash", 168, "no such man or shirt") (List.mem_of_getElem? (i := 5) rfl)
      have hP9 := hP.sub (ws' := [(w0, oX10 tp ts wb h ph pd ps cr lr hd pk gs), (h, oX0 m1 m2 m3 mc sc tx nr ra ru dy wa se (some l0)), (m1, kcI cI 50 f1), (m2, kcI cI 72 f2), (m3, kcJ cJ 30 f3), (l0, oX4 l1 l2 l3 l4), (l1, kcI cI M1 y1_), (l2, kcI cI M2 y2_), (l3, kcI cI M3 y3_), (l4, kcI cI 28 y4_)]) [0, 1, 2, 3, 4, 5, 6, 7, 8, 9] rfl
      have hD9 := hD.sub (ws' := [(w0, oX10 tp ts wb h ph pd ps cr lr hd pk gs), (h, oX0 m1 m2 m3 mc sc tx nr ra ru dy wa se (some l0)), (m1, kcI cI 50 f1), (m2, kcI cI 72 f2), (m3, kcJ cJ 30 f3), (l0, oX4 l1 l2 l3 l4), (l1, kcI cI M1 y1_), (l2, kcI cI M2 y2_), (l3, kcI cI M3 y3_), (l4, kcI cI 28 y4_)]) [0, 1, 2, 3, 4, 5, 6, 7, 8, 9] (by decide) rfl
      have hXF : F_z_SW_barred_s mc.toInt sc.toInt nr.toInt wa.toInt (gT f1) (gT f2) f3 M1 M2 M3 (gT y1_) (gT y2_) (gT y3_) (gT y4_) a1.toInt b1.toInt = Sum.inr (1, ()) := (kLet_eq (k2).symm (kif_f (by decide) (kLet_eq (k18).symm (kif_t rfl rfl))))
      exact vx_throwS (A := A) (text := "no such man or shirt") (cls := "java/lang/IndexOutOfBoundsException") (names := ["java/lang/RuntimeException", "java/lang/Exception"]) hx hb hst hown (by decide) (by decide) (hts _ w26_10) (hts _ w26_11) hsa (vx_hat (B := Cond.castable "java/lang/IndexOutOfBoundsException" "java/lang/IndexOutOfBoundsException" :: kDec.map Cond.declares) (fun w hw => hts w (kx143_g w hw)) kx143_b (kXB_0 hXd)) kx143_o hX.1 hX.2.1 hS (hl.1.trans hml.symm) dX10_barred_22 dX10_barred_25 dX10_barred_26 dX10_barred_28 dX10_barred_31 (fun x hx => (hnt x hx).elim) (Nat.le_of_ble_eq_true rfl) (Nat.le_of_ble_eq_true rfl) (Nat.le_of_ble_eq_true rfl) (Nat.le_of_ble_eq_true rfl) B.notSynchronized (fun t hvm hz hk => ⟨(), ⟨_, hXF⟩, ⟨⟨rfl, kXc_eq hXF⟩, fun k9 q9 h9 => (hP9 k9 q9 h9).kept (hk q9.1 (hP9 k9 q9 h9).lt), va_K.moved hvm hK, hD9⟩, Nat.le_trans hS.1 hz, fun q h1 h2 => (hk q (Nat.lt_of_lt_of_le h1 hS.1)).trans (hS.2.1 q h1 h2)⟩) hS.2.2 (Nat.le_of_ble_eq_true rfl) (Nat.le_of_ble_eq_true rfl)
    · skip
      refine lv_if_ne (tgt := 32) hx hb dX10_barred_19 (by decide) (fun _ => ?_) (fun c21 => absurd c21 (by decide))
      refine lv_aload_n hx hb dX10_barred_32 rfl (lv_at hl 0 rfl) ?_
      refine va_get (D := D) (ci := 9) (v := .ref h) (C := RX10) (T := TX10) (N := 12) hx hb hts iG_X10 hown hK hP 0 rfl rfl 3 (by decide) (hts _ w0_20) (fun _ h9 => h9) rfl dX10_barred_33 ?_
      refine lv_iload_n hx hb dX10_barred_36 rfl (lv_at hl 1 rfl) ?_
      refine lv_iload_n hx hb dX10_barred_37 rfl (lv_at hl 2 rfl) ?_
      refine kcalli (wc := [(h, oX0 m1 m2 m3 mc sc tx nr ra ru dy wa se (some l0)), (m1, kcI cI 50 f1), (m2, kcI cI 72 f2), (m3, kcJ cJ 30 f3), (l0, oX4 l1 l2 l3 l4), (l1, kcI cI M1 y1_), (l2, kcI cI M2 y2_), (l3, kcI cI M3 y3_), (l4, kcI cI 28 y4_)]) (wr := [(w0, oX10 tp ts wb h ph pd ps cr lr hd pk gs)]) hP hD hS hA [1, 2, 3, 4, 5, 6, 7, 8, 9] [0] rfl rfl (by decide) (by decide) (by decide) (fun hPc hDc hFc => va_runVN (C := RX0) (As := [.int a1, .int b1]) (rest := []) ⟨hx, hb, hml, hown, hts⟩ (z_Camp_forbids_s l D cI cJ cB cC h m1 m2 m3 mc sc tx nr ra ru dy wa se f1 f2 f3 l0 l1 l2 l3 l4 M1 M2 M3 y1_ y2_ y3_ y4_ a1 b1 H.size) ⟨va_cnB 2 hts gX10_barred_X0_forbids_n170 rfl rfl rfl (nM_64 hN) (hts _ w0_19) hdX0_forbids ⟨Nat.le_of_ble_eq_true rfl, Nat.le_of_ble_eq_true rfl⟩, hts _ w28_23, hts _ w29_0⟩ ⟨kBlind, va_recv hK hPc (ci := 0) (q0 := 0) rfl rfl, fun U hU hW => ⟨rfl, by rw [hU], hN.warm hW, hE.pass hS hFc hW hU, by rw [hU]; exact hPc, va_K.moved hW.alike hK, hDc⟩⟩ rfl rfl hl.1 rfl (lv_room (Nat.le_of_ble_eq_true rfl)) dX10_barred_38 ⟨Nat.le_of_ble_eq_true rfl, Nat.le_of_ble_eq_true rfl⟩) (fun r22 u H locs hw hP hD hS => ?_)
      obtain ⟨g23, rfl⟩ : ∃ z, z = u := ⟨_, rfl⟩
      have hP : va_P D vwCl [(w0, oX10 tp ts wb h ph pd ps cr lr hd pk gs), (h, oX0 m1 m2 m3 mc sc tx nr ra ru dy wa se (some l0)), (m1, kcI cI 50 f1), (m2, kcI cI 72 f2), (m3, kcJ cJ 30 f3), (l0, oX4 l1 l2 l3 l4), (l1, kcI cI M1 y1_), (l2, kcI cI M2 y2_), (l3, kcI cI M3 y3_), (l4, kcI cI 28 g23)] H := hP
      have hD : va_D A [(w0, oX10 tp ts wb h ph pd ps cr lr hd pk gs), (h, oX0 m1 m2 m3 mc sc tx nr ra ru dy wa se (some l0)), (m1, kcI cI 50 f1), (m2, kcI cI 72 f2), (m3, kcJ cJ 30 f3), (l0, oX4 l1 l2 l3 l4), (l1, kcI cI M1 y1_), (l2, kcI cI M2 y2_), (l3, kcI cI M3 y3_), (l4, kcI cI 28 g23)] := hD
      obtain ⟨k24, hw⟩ := hw
      rcases hw with rfl | rfl
      · skip
        have hP9 := hP.sub (ws' := [(w0, oX10 tp ts wb h ph pd ps cr lr hd pk gs), (h, oX0 m1 m2 m3 mc sc tx nr ra ru dy wa se (some l0)), (m1, kcI cI 50 f1), (m2, kcI cI 72 f2), (m3, kcJ cJ 30 f3), (l0, oX4 l1 l2 l3 l4), (l1, kcI cI M1 y1_), (l2, kcI cI M2 y2_), (l3, kcI cI M3 y3_), (l4, kcI cI 28 g23)]) [0, 1, 2, 3, 4, 5, 6, 7, 8, 9] rfl
        have hD9 := hD.sub (ws' := [(w0, oX10 tp ts wb h ph pd ps cr lr hd pk gs), (h, oX0 m1 m2 m3 mc sc tx nr ra ru dy wa se (some l0)), (m1, kcI cI 50 f1), (m2, kcI cI 72 f2), (m3, kcJ cJ 30 f3), (l0, oX4 l1 l2 l3 l4), (l1, kcI cI M1 y1_), (l2, kcI cI M2 y2_), (l3, kcI cI M3 y3_), (l4, kcI cI 28 g23)]) [0, 1, 2, 3, 4, 5, 6, 7, 8, 9] (by decide) rfl
        refine W.widen (k := 1) (n := 6) (Nat.le_of_ble_eq_true rfl) (Nat.le_of_ble_eq_true rfl) ?_
        refine vx_ret ?_
        exact W.zret (v := 0) hx hb hr (by decide) (fun t ht hW => ⟨⟨0, (g23), rfl, ⟨(rg_w (rg_lit (n := 0) (by decide)) (by decide)), (kLet_eq (k2).symm (kif_f (by decide) (kLet_eq (k18).symm (kif_f (by decide) (kC_eq k24 (kif_t rfl rfl))))))⟩, by rw [ht]; exact hP9, va_K.moved hW.alike hK, hD9⟩, hS.F ht⟩) hS.2.2 dX10_barred_41
      · skip
        have hP9 := hP.sub (ws' := [(w0, oX10 tp ts wb h ph pd ps cr lr hd pk gs), (h, oX0 m1 m2 m3 mc sc tx nr ra ru dy wa se (some l0)), (m1, kcI cI 50 f1), (m2, kcI cI 72 f2), (m3, kcJ cJ 30 f3), (l0, oX4 l1 l2 l3 l4), (l1, kcI cI M1 y1_), (l2, kcI cI M2 y2_), (l3, kcI cI M3 y3_), (l4, kcI cI 28 g23)]) [0, 1, 2, 3, 4, 5, 6, 7, 8, 9] rfl
        have hD9 := hD.sub (ws' := [(w0, oX10 tp ts wb h ph pd ps cr lr hd pk gs), (h, oX0 m1 m2 m3 mc sc tx nr ra ru dy wa se (some l0)), (m1, kcI cI 50 f1), (m2, kcI cI 72 f2), (m3, kcJ cJ 30 f3), (l0, oX4 l1 l2 l3 l4), (l1, kcI cI M1 y1_), (l2, kcI cI M2 y2_), (l3, kcI cI M3 y3_), (l4, kcI cI 28 g23)]) [0, 1, 2, 3, 4, 5, 6, 7, 8, 9] (by decide) rfl
        refine W.widen (k := 1) (n := 6) (Nat.le_of_ble_eq_true rfl) (Nat.le_of_ble_eq_true rfl) ?_
        refine vx_ret ?_
        exact W.zret (v := 1) hx hb hr (by decide) (fun t ht hW => ⟨⟨1, (g23), rfl, ⟨(rg_w (rg_lit (n := 1) (by decide)) (by decide)), (kLet_eq (k2).symm (kif_f (by decide) (kLet_eq (k18).symm (kif_f (by decide) (kC_eq k24 (kif_f (by decide) rfl))))))⟩, by rw [ht]; exact hP9, va_K.moved hW.alike hK, hD9⟩, hS.F ht⟩) hS.2.2 dX10_barred_41

set_option maxHeartbeats 4000000 in
set_option maxRecDepth 100000 in
/-- ShirtWash.cost (s) -/
theorem z_SW_cost_s (l : Launch) (hst : l.stackTraces = false) (D : va_G) (cI cJ cB cC : ClassId) (w0 : Nat) (tp : Nat) (ts : Int32) (wb : Int32) (ph : Nat) (pd : Int32) (ps : Nat) (cr : Nat) (lr : Nat) (hd : Nat) (pk : Nat) (gs : Nat) (h : Nat) (m1 : Nat) (m2 : Nat) (m3 : Nat) (mc : Int32) (sc : Int32) (tx : Int32) (nr : Int32) (ra : Int32) (ru : Int32) (dy : Int32) (wa : Int32) (se : Int32) (f1 : Nat → Int32) (f2 : Nat → Int32) (f3 : Nat → Int64) (l0 : Nat) (l1 : Nat) (l2 : Nat) (l3 : Nat) (l4 : Nat) (M1 : Nat) (M2 : Nat) (M3 : Nat) (y1_ : Nat → Int32) (y2_ : Nat → Int32) (y3_ : Nat → Int32) (y4_ : Nat → Int32) (a1 : Int32) (b1 : Int32) (sz : Nat)  : vx_Met l yX10_cost kwX10_cost ({ frames := 6, cells := 1, slots := 6, locals := 113 } : Room) (kPre D (kT cI cJ cB cC) sz [(w0, oX10 tp ts wb h ph pd ps cr lr hd pk gs), (h, oX0 m1 m2 m3 mc sc tx nr ra ru dy wa se (some l0)), (m1, kcI cI 50 f1), (m2, kcI cI 72 f2), (m3, kcJ cJ 30 f3), (l0, oX4 l1 l2 l3 l4), (l1, kcI cI M1 y1_), (l2, kcI cI M2 y2_), (l3, kcI cI M3 y3_), (l4, kcI cI 28 y4_)] [.ref w0, .int a1, .int b1]) (va_Qi (fun (r : Int32) (f0_ : (Nat → Int32)) => F_z_SW_cost_s (mc : Int32).toInt (sc : Int32).toInt (nr : Int32).toInt (wa : Int32).toInt (gT f1) (gT f2) f3 M1 M2 M3 (gT y1_) (gT y2_) (gT y3_) (gT y4_) (a1 : Int32).toInt (b1 : Int32).toInt = Sum.inl ((r : Int32).toInt, (gT f0_))) (fun (f0_ : (Nat → Int32)) (t : State) => kB D (kT cI cJ cB cC) (va_A [(w0, oX10 tp ts wb h ph pd ps cr lr hd pk gs), (h, oX0 m1 m2 m3 mc sc tx nr ra ru dy wa se (some l0)), (m1, kcI cI 50 f1), (m2, kcI cI 72 f2), (m3, kcJ cJ 30 f3), (l0, oX4 l1 l2 l3 l4), (l1, kcI cI M1 y1_), (l2, kcI cI M2 y2_), (l3, kcI cI M3 y3_), (l4, kcI cI 28 y4_)] sz) [(w0, oX10 tp ts wb h ph pd ps cr lr hd pk gs), (h, oX0 m1 m2 m3 mc sc tx nr ra ru dy wa se (some l0)), (m1, kcI cI 50 f1), (m2, kcI cI 72 f2), (m3, kcJ cJ 30 f3), (l0, oX4 l1 l2 l3 l4), (l1, kcI cI M1 y1_), (l2, kcI cI M2 y2_), (l3, kcI cI M3 y3_), (l4, kcI cI 28 f0_)] t) (va_A [(w0, oX10 tp ts wb h ph pd ps cr lr hd pk gs), (h, oX0 m1 m2 m3 mc sc tx nr ra ru dy wa se (some l0)), (m1, kcI cI 50 f1), (m2, kcI cI 72 f2), (m3, kcJ cJ 30 f3), (l0, oX4 l1 l2 l3 l4), (l1, kcI cI M1 y1_), (l2, kcI cI M2 y2_), (l3, kcI cI M3 y3_), (l4, kcI cI 28 y4_)] sz)) (vx_X (fun (_ : Unit) => (∃ c9 : Int, F_z_SW_cost_s (mc : Int32).toInt (sc : Int32).toInt (nr : Int32).toInt (wa : Int32).toInt (gT f1) (gT f2) f3 M1 M2 M3 (gT y1_) (gT y2_) (gT y3_) (gT y4_) (a1 : Int32).toInt (b1 : Int32).toInt = Sum.inr (c9, ()))) (fun (E : String) (_ : Unit) (t : State) => (E = "java/lang/IndexOutOfBoundsException" ∧ kXc (F_z_SW_cost_s (mc : Int32).toInt (sc : Int32).toInt (nr : Int32).toInt (wa : Int32).toInt (gT f1) (gT f2) f3 M1 M2 M3 (gT y1_) (gT y2_) (gT y3_) (gT y4_) (a1 : Int32).toInt (b1 : Int32).toInt) = 1) ∧ kB D (kT cI cJ cB cC) (va_A [(w0, oX10 tp ts wb h ph pd ps cr lr hd pk gs), (h, oX0 m1 m2 m3 mc sc tx nr ra ru dy wa se (some l0)), (m1, kcI cI 50 f1), (m2, kcI cI 72 f2), (m3, kcJ cJ 30 f3), (l0, oX4 l1 l2 l3 l4), (l1, kcI cI M1 y1_), (l2, kcI cI M2 y2_), (l3, kcI cI M3 y3_), (l4, kcI cI 28 y4_)] sz) [(w0, oX10 tp ts wb h ph pd ps cr lr hd pk gs), (h, oX0 m1 m2 m3 mc sc tx nr ra ru dy wa se (some l0)), (m1, kcI cI 50 f1), (m2, kcI cI 72 f2), (m3, kcJ cJ 30 f3), (l0, oX4 l1 l2 l3 l4), (l1, kcI cI M1 y1_), (l2, kcI cI M2 y2_), (l3, kcI cI M3 y3_), (l4, kcI cI 28 y4_)] t) (va_A [(w0, oX10 tp ts wb h ph pd ps cr lr hd pk gs), (h, oX0 m1 m2 m3 mc sc tx nr ra ru dy wa se (some l0)), (m1, kcI cI 50 f1), (m2, kcI cI 72 f2), (m3, kcJ cJ 30 f3), (l0, oX4 l1 l2 l3 l4), (l1, kcI cI M1 y1_), (l2, kcI cI M2 y2_), (l3, kcI cI M3 y3_), (l4, kcI cI 28 y4_)] sz)) 1 6 (va_A [(w0, oX10 tp ts wb h ph pd ps cr lr hd pk gs), (h, oX0 m1 m2 m3 mc sc tx nr ra ru dy wa se (some l0)), (m1, kcI cI 50 f1), (m2, kcI cI 72 f2), (m3, kcJ cJ 30 f3), (l0, oX4 l1 l2 l3 l4), (l1, kcI cI M1 y1_), (l2, kcI cI M2 y2_), (l3, kcI cI M3 y3_), (l4, kcI cI 28 y4_)] sz) := by
  refine vx_ofW (cc := cX10_cost) (maxL := 3) (ret := (some .int)) (by decide) rfl ?_
  intro p e s m args below meth c s₁ B hml hnt hv
  obtain ⟨rfl, hsz, hN, hE, hP, hK, hD0⟩ := hv
  have hx := B.exec
  have hb := B.bytes
  have hr := B.returns
  have hts := fun (w : Cond) (h : w ∈ kG) => atoms_spec (ws := kwX10_cost) B.pre w (List.mem_cons_of_mem _ h)
  have hown : s.vm.findClass RX10 = some m.cls := findClass_of_methodNamed B.named
  subst hsz
  have hD := hD0.self (sz := s.heap.size)
  generalize hAe : va_A [(w0, oX10 tp ts wb h ph pd ps cr lr hd pk gs), (h, oX0 m1 m2 m3 mc sc tx nr ra ru dy wa se (some l0)), (m1, kcI cI 50 f1), (m2, kcI cI 72 f2), (m3, kcJ cJ 30 f3), (l0, oX4 l1 l2 l3 l4), (l1, kcI cI M1 y1_), (l2, kcI cI M2 y2_), (l3, kcI cI M3 y3_), (l4, kcI cI 28 y4_)] s.heap.size = A at hD hE ⊢
  have hXd := hE.1
  have hX := hXd.1
  have hC := hE.2.1.1
  have hA : ∀ q : Nat, s.heap.size ≤ q → A q := fun q h => by rw [← hAe]; exact Or.inr h
  have hl := lv_entry ([.ref w0, .int a1, .int b1]) (n := 3) (Nat.le_of_ble_eq_true rfl)
  rw [lg_entry_eq]
  generalize (lg_sl ([.ref w0, .int a1, .int b1]) ++ List.replicate (3 - (lg_sl ([.ref w0, .int a1, .int b1])).length) Slot.unset).toArray = ls at hl ⊢
  have hl : lv_has ls 3 [(0, .ref w0), (1, .int a1), (2, .int b1)] := hl
  obtain ⟨H, hH0⟩ : ∃ H, H = s.heap := ⟨_, rfl⟩
  have hS : va_S A s.heap H [] := by rw [hH0]; exact va_S.rf
  have hP : va_P D vwCl [(w0, oX10 tp ts wb h ph pd ps cr lr hd pk gs), (h, oX0 m1 m2 m3 mc sc tx nr ra ru dy wa se (some l0)), (m1, kcI cI 50 f1), (m2, kcI cI 72 f2), (m3, kcJ cJ 30 f3), (l0, oX4 l1 l2 l3 l4), (l1, kcI cI M1 y1_), (l2, kcI cI M2 y2_), (l3, kcI cI M3 y3_), (l4, kcI cI 28 y4_)] H := by rw [hH0]; exact hP
  refine kHeap hH0 ?_
  clear hH0
  refine lv_aload_n hx hb dX10_cost_0 rfl (lv_at hl 0 rfl) ?_
  refine va_get (D := D) (ci := 9) (v := .ref h) (C := RX10) (T := TX10) (N := 12) hx hb hts iG_X10 hown hK hP 0 rfl rfl 3 (by decide) (hts _ w0_20) (fun _ h9 => h9) rfl dX10_cost_1 ?_
  refine lv_iload_n hx hb dX10_cost_4 rfl (lv_at hl 1 rfl) ?_
  refine kpurei (wc := [(h, oX0 m1 m2 m3 mc sc tx nr ra ru dy wa se (some l0)), (m1, kcI cI 50 f1), (m2, kcI cI 72 f2), (m3, kcJ cJ 30 f3)]) hP hD hS hA [1, 2, 3, 4] rfl (by decide) (fun hPc hDc hFc => va_runVN (C := RX0) (As := [.int a1]) (rest := []) ⟨hx, hb, hml, hown, hts⟩ (z_Camp_isMan l D cI cJ cB cC h m1 m2 m3 mc sc tx nr ra ru dy wa se (some l0) f1 f2 f3 a1 H.size) ⟨va_cnB 1 hts gX10_cost_X0_isMan_n136 rfl rfl rfl (nM_58 hN) (hts _ w0_19) hdX0_isMan ⟨Nat.le_of_ble_eq_true rfl, Nat.le_of_ble_eq_true rfl⟩, hts _ w14_18, hts _ w14_19⟩ ⟨kBlind, va_recv hK hPc (ci := 0) (q0 := 0) rfl rfl, fun U hU hW => ⟨rfl, by rw [hU], hN.warm hW, hE.pass hS hFc hW hU, by rw [hU]; exact hPc, va_K.moved hW.alike hK, hDc⟩⟩ rfl rfl hl.1 rfl (lv_room (Nat.le_of_ble_eq_true rfl)) dX10_cost_5 ⟨Nat.le_of_ble_eq_true rfl, Nat.le_of_ble_eq_true rfl⟩) (fun r1 u H locs hw hP hS => ?_)
  obtain ⟨k2, hw⟩ := hw
  rcases hw with rfl | ⟨rfl, kc3_0, kc3_1⟩
  · skip
    refine lv_if_eq (tgt := 22) hx hb dX10_cost_8 (by decide) (fun _ => ?_) (fun c5 => absurd (by decide) c5)
    obtain ⟨sa, hsa⟩ := hX.2.2.1 ("ShirtWash", 168, "no such man or shirt") (List.mem_of_getElem? (i := 5) rfl)
    have hP9 := hP.sub (ws' := [(w0, oX10 tp ts wb h ph pd ps cr lr hd pk gs), (h, oX0 m1 m2 m3 mc sc tx nr ra ru dy wa se (some l0)), (m1, kcI cI 50 f1), (m2, kcI cI 72 f2), (m3, kcJ cJ 30 f3), (l0, oX4 l1 l2 l3 l4), (l1, kcI cI M1 y1_), (l2, kcI cI M2 y2_), (l3, kcI cI M3 y3_), (l4, kcI cI 28 y4_)]) [0, 1, 2, 3, 4, 5, 6, 7, 8, 9] rfl
    have hD9 := hD.sub (ws' := [(w0, oX10 tp ts wb h ph pd ps cr lr hd pk gs), (h, oX0 m1 m2 m3 mc sc tx nr ra ru dy wa se (some l0)), (m1, kcI cI 50 f1), (m2, kcI cI 72 f2), (m3, kcJ cJ 30 f3), (l0, oX4 l1 l2 l3 l4), (l1, kcI cI M1 y1_), (l2, kcI cI M2 y2_), (l3, kcI cI M3 y3_), (l4, kcI cI 28 y4_)]) [0, 1, 2, 3, 4, 5, 6, 7, 8, 9] (by decide) rfl
    have hXF : F_z_SW_cost_s mc.toInt sc.toInt nr.toInt wa.toInt (gT f1) (gT f2) f3 M1 M2 M3 (gT y1_) (gT y2_) (gT y3_) (gT y4_) a1.toInt b1.toInt = Sum.inr (1, ()) := (kLet_eq (k2).symm (kif_t rfl rfl))
    exact vx_throwS (A := A) (text := "no such man or shirt") (cls := "java/lang/IndexOutOfBoundsException") (names := ["java/lang/RuntimeException", "java/lang/Exception"]) hx hb hst hown (by decide) (by decide) (hts _ w26_10) (hts _ w26_11) hsa (vx_hat (B := Cond.castable "java/lang/IndexOutOfBoundsException" "java/lang/IndexOutOfBoundsException" :: kDec.map Cond.declares) (fun w hw => hts w (kx143_g w hw)) kx143_b (kXB_0 hXd)) kx143_o hX.1 hX.2.1 hS (hl.1.trans hml.symm) dX10_cost_22 dX10_cost_25 dX10_cost_26 dX10_cost_28 dX10_cost_31 (fun x hx => (hnt x hx).elim) (Nat.le_of_ble_eq_true rfl) (Nat.le_of_ble_eq_true rfl) (Nat.le_of_ble_eq_true rfl) (Nat.le_of_ble_eq_true rfl) B.notSynchronized (fun t hvm hz hk => ⟨(), ⟨_, hXF⟩, ⟨⟨rfl, kXc_eq hXF⟩, fun k9 q9 h9 => (hP9 k9 q9 h9).kept (hk q9.1 (hP9 k9 q9 h9).lt), va_K.moved hvm hK, hD9⟩, Nat.le_trans hS.1 hz, fun q h1 h2 => (hk q (Nat.lt_of_lt_of_le h1 hS.1)).trans (hS.2.1 q h1 h2)⟩) hS.2.2 (Nat.le_of_ble_eq_true rfl) (Nat.le_of_ble_eq_true rfl)
  · skip
    refine lv_if_eq (tgt := 22) hx hb dX10_cost_8 (by decide) (fun c15 => absurd c15 (by decide)) (fun _ => ?_)
    refine lv_aload_n hx hb dX10_cost_11 rfl (lv_at hl 0 rfl) ?_
    refine va_get (D := D) (ci := 9) (v := .ref h) (C := RX10) (T := TX10) (N := 12) hx hb hts iG_X10 hown hK hP 0 rfl rfl 3 (by decide) (hts _ w0_20) (fun _ h9 => h9) rfl dX10_cost_12 ?_
    refine lv_iload_n hx hb dX10_cost_15 rfl (lv_at hl 2 rfl) ?_
    refine kpurei (wc := [(h, oX0 m1 m2 m3 mc sc tx nr ra ru dy wa se (some l0)), (m1, kcI cI 50 f1), (m2, kcI cI 72 f2), (m3, kcJ cJ 30 f3)]) hP hD hS hA [1, 2, 3, 4] rfl (by decide) (fun hPc hDc hFc => va_runVN (C := RX0) (As := [.int b1]) (rest := []) ⟨hx, hb, hml, hown, hts⟩ (z_Camp_isShirt l D cI cJ cB cC h m1 m2 m3 mc sc tx nr ra ru dy wa se (some l0) f1 f2 f3 b1 H.size) ⟨va_cnB 1 hts gX10_cost_X0_isShirt_n157 rfl rfl rfl (nM_61 hN) (hts _ w0_19) hdX0_isShirt ⟨Nat.le_of_ble_eq_true rfl, Nat.le_of_ble_eq_true rfl⟩, hts _ w15_4, hts _ w15_5⟩ ⟨kBlind, va_recv hK hPc (ci := 0) (q0 := 0) rfl rfl, fun U hU hW => ⟨rfl, by rw [hU], hN.warm hW, hE.pass hS hFc hW hU, by rw [hU]; exact hPc, va_K.moved hW.alike hK, hDc⟩⟩ rfl rfl hl.1 rfl (lv_room (Nat.le_of_ble_eq_true rfl)) dX10_cost_16 ⟨Nat.le_of_ble_eq_true rfl, Nat.le_of_ble_eq_true rfl⟩) (fun r16 u H locs hw hP hS => ?_)
    obtain ⟨k17, hw⟩ := hw
    rcases hw with rfl | ⟨rfl, kc18_0, kc18_1⟩
    · skip
      refine lv_if_ne (tgt := 32) hx hb dX10_cost_19 (by decide) (fun c19 => absurd (by decide) c19) (fun _ => ?_)
      obtain ⟨sa, hsa⟩ := hX.2.2.1 ("ShirtWash", 168, "no such man or shirt") (List.mem_of_getElem? (i := 5) rfl)
      have hP9 := hP.sub (ws' := [(w0, oX10 tp ts wb h ph pd ps cr lr hd pk gs), (h, oX0 m1 m2 m3 mc sc tx nr ra ru dy wa se (some l0)), (m1, kcI cI 50 f1), (m2, kcI cI 72 f2), (m3, kcJ cJ 30 f3), (l0, oX4 l1 l2 l3 l4), (l1, kcI cI M1 y1_), (l2, kcI cI M2 y2_), (l3, kcI cI M3 y3_), (l4, kcI cI 28 y4_)]) [0, 1, 2, 3, 4, 5, 6, 7, 8, 9] rfl
      have hD9 := hD.sub (ws' := [(w0, oX10 tp ts wb h ph pd ps cr lr hd pk gs), (h, oX0 m1 m2 m3 mc sc tx nr ra ru dy wa se (some l0)), (m1, kcI cI 50 f1), (m2, kcI cI 72 f2), (m3, kcJ cJ 30 f3), (l0, oX4 l1 l2 l3 l4), (l1, kcI cI M1 y1_), (l2, kcI cI M2 y2_), (l3, kcI cI M3 y3_), (l4, kcI cI 28 y4_)]) [0, 1, 2, 3, 4, 5, 6, 7, 8, 9] (by decide) rfl
      have hXF : F_z_SW_cost_s mc.toInt sc.toInt nr.toInt wa.toInt (gT f1) (gT f2) f3 M1 M2 M3 (gT y1_) (gT y2_) (gT y3_) (gT y4_) a1.toInt b1.toInt = Sum.inr (1, ()) := (kLet_eq (k2).symm (kif_f (by decide) (kLet_eq (k17).symm (kif_t rfl rfl))))
      exact vx_throwS (A := A) (text := "no such man or shirt") (cls := "java/lang/IndexOutOfBoundsException") (names := ["java/lang/RuntimeException", "java/lang/Exception"]) hx hb hst hown (by decide) (by decide) (hts _ w26_10) (hts _ w26_11) hsa (vx_hat (B := Cond.castable "java/lang/IndexOutOfBoundsException" "java/lang/IndexOutOfBoundsException" :: kDec.map Cond.declares) (fun w hw => hts w (kx143_g w hw)) kx143_b (kXB_0 hXd)) kx143_o hX.1 hX.2.1 hS (hl.1.trans hml.symm) dX10_cost_22 dX10_cost_25 dX10_cost_26 dX10_cost_28 dX10_cost_31 (fun x hx => (hnt x hx).elim) (Nat.le_of_ble_eq_true rfl) (Nat.le_of_ble_eq_true rfl) (Nat.le_of_ble_eq_true rfl) (Nat.le_of_ble_eq_true rfl) B.notSynchronized (fun t hvm hz hk => ⟨(), ⟨_, hXF⟩, ⟨⟨rfl, kXc_eq hXF⟩, fun k9 q9 h9 => (hP9 k9 q9 h9).kept (hk q9.1 (hP9 k9 q9 h9).lt), va_K.moved hvm hK, hD9⟩, Nat.le_trans hS.1 hz, fun q h1 h2 => (hk q (Nat.lt_of_lt_of_le h1 hS.1)).trans (hS.2.1 q h1 h2)⟩) hS.2.2 (Nat.le_of_ble_eq_true rfl) (Nat.le_of_ble_eq_true rfl)
    · skip
      refine lv_if_ne (tgt := 32) hx hb dX10_cost_19 (by decide) (fun _ => ?_) (fun c20 => absurd c20 (by decide))
      refine lv_aload_n hx hb dX10_cost_32 rfl (lv_at hl 0 rfl) ?_
      refine va_get (D := D) (ci := 9) (v := .ref h) (C := RX10) (T := TX10) (N := 12) hx hb hts iG_X10 hown hK hP 0 rfl rfl 3 (by decide) (hts _ w0_20) (fun _ h9 => h9) rfl dX10_cost_33 ?_
      refine lv_iload_n hx hb dX10_cost_36 rfl (lv_at hl 1 rfl) ?_
      refine lv_iload_n hx hb dX10_cost_37 rfl (lv_at hl 2 rfl) ?_
      refine kcalli (wc := [(h, oX0 m1 m2 m3 mc sc tx nr ra ru dy wa se (some l0)), (m1, kcI cI 50 f1), (m2, kcI cI 72 f2), (m3, kcJ cJ 30 f3), (l0, oX4 l1 l2 l3 l4), (l1, kcI cI M1 y1_), (l2, kcI cI M2 y2_), (l3, kcI cI M3 y3_), (l4, kcI cI 28 y4_)]) (wr := [(w0, oX10 tp ts wb h ph pd ps cr lr hd pk gs)]) hP hD hS hA [1, 2, 3, 4, 5, 6, 7, 8, 9] [0] rfl rfl (by decide) (by decide) (by decide) (fun hPc hDc hFc => va_runVN (C := RX0) (As := [.int a1, .int b1]) (rest := []) ⟨hx, hb, hml, hown, hts⟩ (z_Camp_priceOf_s l D cI cJ cB cC h m1 m2 m3 mc sc tx nr ra ru dy wa se f1 f2 f3 l0 l1 l2 l3 l4 M1 M2 M3 y1_ y2_ y3_ y4_ a1 b1 H.size) ⟨va_cnB 2 hts gX10_cost_X0_priceOf_n174 rfl rfl rfl (nM_65 hN) (hts _ w0_19) hdX0_priceOf ⟨Nat.le_of_ble_eq_true rfl, Nat.le_of_ble_eq_true rfl⟩, hts _ w31_6, hts _ w31_7⟩ ⟨kBlind, va_recv hK hPc (ci := 0) (q0 := 0) rfl rfl, fun U hU hW => ⟨rfl, by rw [hU], hN.warm hW, hE.pass hS hFc hW hU, by rw [hU]; exact hPc, va_K.moved hW.alike hK, hDc⟩⟩ rfl rfl hl.1 rfl (lv_room (Nat.le_of_ble_eq_true rfl)) dX10_cost_38 ⟨Nat.le_of_ble_eq_true rfl, Nat.le_of_ble_eq_true rfl⟩) (fun r21 u H locs hw hP hD hS => ?_)
      obtain ⟨g22, rfl⟩ : ∃ z, z = u := ⟨_, rfl⟩
      have hP : va_P D vwCl [(w0, oX10 tp ts wb h ph pd ps cr lr hd pk gs), (h, oX0 m1 m2 m3 mc sc tx nr ra ru dy wa se (some l0)), (m1, kcI cI 50 f1), (m2, kcI cI 72 f2), (m3, kcJ cJ 30 f3), (l0, oX4 l1 l2 l3 l4), (l1, kcI cI M1 y1_), (l2, kcI cI M2 y2_), (l3, kcI cI M3 y3_), (l4, kcI cI 28 g22)] H := hP
      have hD : va_D A [(w0, oX10 tp ts wb h ph pd ps cr lr hd pk gs), (h, oX0 m1 m2 m3 mc sc tx nr ra ru dy wa se (some l0)), (m1, kcI cI 50 f1), (m2, kcI cI 72 f2), (m3, kcJ cJ 30 f3), (l0, oX4 l1 l2 l3 l4), (l1, kcI cI M1 y1_), (l2, kcI cI M2 y2_), (l3, kcI cI M3 y3_), (l4, kcI cI 28 g22)] := hD
      have k23 := hw
      have hP9 := hP.sub (ws' := [(w0, oX10 tp ts wb h ph pd ps cr lr hd pk gs), (h, oX0 m1 m2 m3 mc sc tx nr ra ru dy wa se (some l0)), (m1, kcI cI 50 f1), (m2, kcI cI 72 f2), (m3, kcJ cJ 30 f3), (l0, oX4 l1 l2 l3 l4), (l1, kcI cI M1 y1_), (l2, kcI cI M2 y2_), (l3, kcI cI M3 y3_), (l4, kcI cI 28 g22)]) [0, 1, 2, 3, 4, 5, 6, 7, 8, 9] rfl
      have hD9 := hD.sub (ws' := [(w0, oX10 tp ts wb h ph pd ps cr lr hd pk gs), (h, oX0 m1 m2 m3 mc sc tx nr ra ru dy wa se (some l0)), (m1, kcI cI 50 f1), (m2, kcI cI 72 f2), (m3, kcJ cJ 30 f3), (l0, oX4 l1 l2 l3 l4), (l1, kcI cI M1 y1_), (l2, kcI cI M2 y2_), (l3, kcI cI M3 y3_), (l4, kcI cI 28 g22)]) [0, 1, 2, 3, 4, 5, 6, 7, 8, 9] (by decide) rfl
      refine W.widen (k := 1) (n := 6) (Nat.le_of_ble_eq_true rfl) (Nat.le_of_ble_eq_true rfl) ?_
      refine vx_ret ?_
      exact W.iret (v := r21) hx hb hr (fun t ht hW => ⟨⟨r21, (g22), rfl, (kLet_eq (k2).symm (kif_f (by decide) (kLet_eq (k17).symm (kif_f (by decide) (kC_eq k23 rfl))))), by rw [ht]; exact hP9, va_K.moved hW.alike hK, hD9⟩, hS.F ht⟩) hS.2.2 dX10_cost_41

